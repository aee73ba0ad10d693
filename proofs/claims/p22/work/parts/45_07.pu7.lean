/-! ===== pure: what drinking, sleep and THE FUND leave of the reference's row ===== -/
section PU7
variable {I : Nat → Int32} {J : Nat → Int64} {ri : Nat → Nat → Int32} {rj : Nat → Nat → Int64} {rq : Nat → Nat → Option Nat}
theorem fg_pure {α : Type} {μ : vM} {b : α × vM} (h : FRG Prod.snd ([], [], [], [], []) μ b) : b = (b.1, μ) := by
  obtain ⟨v, I1, J1, r1, l1, q1⟩ := b
  obtain ⟨h1, h2, h3, h4, h5⟩ := h
  have e1 : I1 = μ.1 := funext fun f => h1 f (fun x => by have y : f ∈ ([] : List Nat) := x; cases y)
  have e2 : J1 = μ.2.1 := funext fun f => h2 f (fun x => by have y : f ∈ ([] : List Nat) := x; cases y)
  have e3 : r1 = μ.2.2.1 := funext fun f => h3 f (fun x => by have y : f ∈ ([] : List Nat) := x; cases y)
  have e4 : l1 = μ.2.2.2.1 := funext fun f => h4 f (fun x => by have y : f ∈ ([] : List Nat) := x; cases y)
  have e5 : q1 = μ.2.2.2.2 := funext fun f => h5 f (fun x => by have y : f ∈ ([] : List Nat) := x; cases y)
  rw [e1, e2, e3, e4, e5]
theorem bn_p {α β : Type} {p : α × vM} {I : Nat → Int32} {J : Nat → Int64} {ri : Nat → Nat → Int32} {rj : Nat → Nat → Int64} {rq : Nat → Nat → Option Nat} {k : α → (Nat → Int32) → (Nat → Int64) → (Nat → Nat → Int32) → (Nat → Nat → Int64) → (Nat → Nat → Option Nat) → β} (h : FRG Prod.snd ([], [], [], [], []) (I, J, ri, rj, rq) p) : bnI p k = k p.1 I J ri rj rq := by rw [fg_pure h]; rfl
/-- all but what drinking, sleep, THE FUND and BOATS write -/
def zm0 (f g : Nat → Int32) : Prop := ∀ i, (i ≠ 8 ∧ i ≠ 12 ∧ i ≠ 18) → (∀ c, c < 40 → i ≠ 100 + 16 * c + 9) → (∀ p k, p < 40 → k ∈ [3, 5, 6, 7] → i ≠ 740 + 12 * p + k) → g i = f i
/-- the dead are the dead -/
def zd (f g : Nat → Int32) : Prop := ∀ p, p < 40 → (g (740 + 12 * p + 3) = 300 ↔ f (740 + 12 * p + 3) = 300)
def zm (f g : Nat → Int32) : Prop := zm0 f g ∧ zd f g
def zk (f g : Nat → Int32) : Prop := zd f g ∧ g 5 = f 5
theorem zd_e {f : Nat → Int32} {i : Nat} {v : Int32} (h : ∀ p, p < 40 → 740 + 12 * p + 3 ≠ i) : zd f (upd f i v) := fun p hp => by
  have e := upd_n f v (h p hp)
  exact ⟨fun y => e.symm.trans y, fun y => e.trans y⟩
theorem zm_rf {f : Nat → Int32} : zm f f := ⟨fun _ _ _ _ => rfl, fun _ _ => Iff.rfl⟩
theorem zm_tr {f g h : Nat → Int32} (a : zm f g) (b : zm g h) : zm f h := ⟨fun i x y z => (b.1 i x y z).trans (a.1 i x y z), fun p hp => (b.2 p hp).trans (a.2 p hp)⟩
theorem zm_l {f : Nat → Int32} {c : Nat} {v : Int32} (hc : c < 40) : zm f (upd f (100 + 16 * c + 9) v) := ⟨fun i _ y _ => upd_n _ _ (y c hc), zd_e (fun p hp => by omega)⟩
theorem zm_p {f : Nat → Int32} {p k : Nat} {v : Int32} (hp : p < 40) (hk : k ∈ [5, 6, 7]) : zm f (upd f (740 + 12 * p + k) v) := ⟨fun i _ _ z => upd_n _ _ (z p k hp (List.mem_cons_of_mem _ hk)), zd_e (fun q hq => by
  simp only [List.mem_cons, List.not_mem_nil, or_false] at hk
  omega)⟩
theorem zm_p3 {f : Nat → Int32} {p : Nat} {v : Int32} (hp : p < 40) (h0 : f (740 + 12 * p + 3) ≠ 300) (hv : v ≠ 300) : zm f (upd f (740 + 12 * p + 3) v) := ⟨fun i _ _ z => upd_n _ _ (z p 3 hp (by decide)), fun q hq => by
  by_cases e : q = p
  · rw [e, upd_s]
    exact ⟨fun y => absurd y hv, fun y => absurd y h0⟩
  · have e2 := upd_n f v (show 740 + 12 * q + 3 ≠ 740 + 12 * p + 3 by omega)
    exact ⟨fun y => e2.symm.trans y, fun y => e2.trans y⟩⟩
theorem zm_f {f : Nat → Int32} {k : Nat} {v : Int32} (hk : k = 8 ∨ k = 12 ∨ k = 18) : zm f (upd f k v) := ⟨fun i x _ _ => upd_n _ _ (by omega), zd_e (fun p hp => by omega)⟩
/-- all but what BOATS write -/
def zb0 (f g : Nat → Int32) : Prop := ∀ i, i = i → (∀ c : Nat, c < 40 → c = c) → (∀ p k, p < 40 → k ∈ [3, 7] → i ≠ 740 + 12 * p + k) → g i = f i
def zb (f g : Nat → Int32) : Prop := zb0 f g ∧ zd f g
theorem zb_rf {f : Nat → Int32} : zb f f := ⟨fun _ _ _ _ => rfl, fun _ _ => Iff.rfl⟩
theorem zb_tr {f g h : Nat → Int32} (a : zb f g) (b : zb g h) : zb f h := ⟨fun i x y z => (b.1 i x y z).trans (a.1 i x y z), fun p hp => (b.2 p hp).trans (a.2 p hp)⟩
theorem zb_p {f : Nat → Int32} {p k : Nat} {v : Int32} (hp : p < 40) (hk : k ∈ [7]) : zb f (upd f (740 + 12 * p + k) v) := ⟨fun i _ _ z => upd_n _ _ (z p k hp (List.mem_cons_of_mem _ hk)), zd_e (fun q hq => by
  simp only [List.mem_cons, List.not_mem_nil, or_false] at hk
  omega)⟩
theorem zb_p3 {f : Nat → Int32} {p : Nat} {v : Int32} (hp : p < 40) (h0 : f (740 + 12 * p + 3) ≠ 300) (hv : v ≠ 300) : zb f (upd f (740 + 12 * p + 3) v) := ⟨fun i _ _ z => upd_n _ _ (z p 3 hp (by decide)), (zm_p3 hp h0 hv).2⟩
theorem zm_zb {f g : Nat → Int32} (h : zb f g) : zm f g := ⟨fun i _ _ z => h.1 i rfl (fun _ _ => rfl) (fun p k hp hk => z p k hp (by
  simp only [List.mem_cons, List.not_mem_nil, or_false] at hk ⊢
  omega)), h.2⟩
theorem hundred {x : Int32} (h0 : -100 ≤ x.toInt) (h1 : x.toInt ≤ 100) : (100 : Int32) + x ≠ 300 := fun q => by
  have e : ((100 : Int32) + x).toInt = 100 + x.toInt := i_add (show (100 : Int32).toInt = 100 by decide) rfl (by omega) (by omega)
  rw [q, show (300 : Int32).toInt = 300 by decide] at e
  omega
theorem drink_to {p : Int32} {k : Int32 → (Nat → Nat → Int32) → vM} {r : Nat → Nat → Int32} (h40 : (ri 384 2).toInt ≤ 40) : ∀ (n : Nat) (x : Int32), 0 ≤ x.toInt → x.toInt ≤ (ri 384 2).toInt → (40 - x.toInt).toNat < n → ∃ y : Int32, 0 ≤ y.toInt ∧ g_X12_drink_L25 I J ri rj rq p r k n x = g_X12_drink_K55 p r k y (ri 384 2) := by
  intro n
  induction n with
  | zero => intro x _ _ h; exact absurd h (Nat.not_lt_zero _)
  | succ n ih =>
    intro x h1 h2 h3
    rw [g_X12_drink_L25_e]
    simp only [↓ap1_n]
    by_cases c : ri 384 2 ≤ x
    · rw [if_pos c]; exact ⟨x, h1, rfl⟩
    · have c1 := Int32.lt_iff_toInt_lt.mp (Int32.not_le.mp c)
      have e := t1_inc (x := x) (by omega) (by omega)
      rw [if_neg c, bn_p g_X12_personAt_c3_f, bn_p g_X12_isSweet_f]
      split
      · exact ih _ (by omega) (by omega) (by omega)
      · exact ⟨x, h1, rfl⟩
theorem drink_f (h2a : 0 ≤ (ri 384 2).toInt) (h2b : (ri 384 2).toInt ≤ 40) (h5b : (ri 384 5).toInt ≤ 40) : ∃ B : Nat → Int32, g_X12_drink I J ri rj rq = (I, J, va_up ri 384 B, rj, rq) ∧ zm (ri 384) B := by
  have go : ∀ (n : Nat) (x : Int32) (A : Nat → Int32), 0 ≤ x.toInt → (40 - x.toInt).toNat < n → zm (ri 384) A → ∃ B : Nat → Int32, g_X12_drink_L2 I J ri rj rq n x (va_up ri 384 A) = (I, J, va_up ri 384 B, rj, rq) ∧ zm (ri 384) B := by
    intro n
    induction n with
    | zero => intro x A _ h; exact absurd h (Nat.not_lt_zero _)
    | succ n ih =>
      intro x A h1 h3 hA
      have zx := clampE x
      rw [g_X12_drink_L2_e]
      simp only [↓ap1_n]
      by_cases c : ri 384 5 ≤ x
      · rw [if_pos c]; exact ⟨A, rfl, hA⟩
      · have c1 := Int32.lt_iff_toInt_lt.mp (Int32.not_le.mp c)
        have e := t1_inc (x := x) (by omega) (by omega)
        rw [if_neg c, bn_p g_X12_isOnRing_f]
        split
        · simp only [g_X12_drink_K107, ↓ap1_n]
          exact ih _ _ (by omega) (by omega) hA
        · obtain ⟨y, hy0, hy⟩ := drink_to (I := I) (J := J) (rj := rj) (rq := rq) (ri := ri) (p := x) (k := g_X12_drink_L2 I J ri rj rq n) (r := va_up ri 384 A) h2b ((40 - (0 : Int32).toInt).toNat + 1) 0 (by decide) h2a (Nat.lt_succ_self _)
          rw [hy]
          simp only [g_X12_drink_K55, g_X12_drink_K107, ↓ap1_n, va_up_self, up_up]
          by_cases d : ri 384 2 ≤ y
          · rw [if_pos d, ixp (c := x) (k := 5) 5 (by decide) (by decide) h1 (by omega)]
            exact ih _ _ (by omega) (by omega) (zm_tr hA (zm_p (by omega) (by decide)))
          · have d1 := Int32.lt_iff_toInt_lt.mp (Int32.not_le.mp d)
            have zy := clampE y
            rw [if_neg d, ixk (c := y) (k := 9) 9 (by decide) (by decide) hy0 (by omega)]
            exact ih _ _ (by omega) (by omega) (zm_tr hA (zm_l (by omega)))
  rw [g_X12_drink_e]
  have h := go ((40 - (0 : Int32).toInt).toNat + 1) 0 (ri 384) (by decide) (Nat.lt_succ_self _) zm_rf
  rw [up_id] at h
  exact h
theorem sleep_f (h1b : (ri 384 1).toInt ≤ 5) (h2b : (ri 384 2).toInt ≤ 40) (h5b : (ri 384 5).toInt ≤ 40) : ∃ B : Nat → Int32, g_X12_sleep I J ri rj rq = (I, J, va_up ri 384 B, rj, rq) ∧ zm (ri 384) B := by
  have go : ∀ (n : Nat) (x : Int32) (A : Nat → Int32), 0 ≤ x.toInt → (5 - x.toInt).toNat < n → zm (ri 384) A → ∃ B : Nat → Int32, g_X12_sleep_L2 I J ri rj rq n x (va_up ri 384 A) = (I, J, va_up ri 384 B, rj, rq) ∧ zm (ri 384) B := by
    intro n
    induction n with
    | zero => intro x A _ h; exact absurd h (Nat.not_lt_zero _)
    | succ n ih =>
      intro x A h1 h3 hA
      rw [g_X12_sleep_L2_e]
      simp only [↓ap1_n]
      by_cases c : ri 384 1 ≤ x
      · rw [if_pos c]; exact ⟨A, rfl, hA⟩
      · have c1 := Int32.lt_iff_toInt_lt.mp (Int32.not_le.mp c)
        have e := t1_inc (x := x) (by omega) (by omega)
        rw [if_neg c]
        -- the PERSONS of a RING
        have inner : ∀ (m : Nat) (b p : Int32) (A : Nat → Int32), 0 ≤ p.toInt → (40 - p.toInt).toNat < m → zm (ri 384) A → ∃ B : Nat → Int32, g_X12_sleep_L58 I J ri rj rq x (g_X12_sleep_L2 I J ri rj rq n) m b p (va_up ri 384 A) = (I, J, va_up ri 384 B, rj, rq) ∧ zm (ri 384) B := by
          intro m
          induction m with
          | zero => intro b p A _ h; exact absurd h (Nat.not_lt_zero _)
          | succ m im =>
            intro b p A p1 p3 hA
            have zp := clampE p
            rw [g_X12_sleep_L58_e]
            simp only [↓ap1_n]
            by_cases c2 : ri 384 5 ≤ p
            · rw [if_pos c2]
              exact ih _ _ (by omega) (by omega) hA
            · have c3 := Int32.lt_iff_toInt_lt.mp (Int32.not_le.mp c2)
              have e2 := t1_inc (x := p) (by omega) (by omega)
              rw [if_neg c2, bn_p g_X12_personAt_c3_f]
              simp only [g_X12_sleep_K111, ↓ap1_n, va_up_self, up_up]
              split
              · split
                · rw [ixp (c := p) (k := 6) 6 (by decide) (by decide) p1 (by omega)]
                  exact im _ _ _ (by omega) (by omega) (zm_tr hA (zm_p (by omega) (by decide)))
                · exact im _ _ _ (by omega) (by omega) hA
              · exact im _ _ _ (by omega) (by omega) hA
        have beds : ∀ (m : Nat) (b y : Int32), 0 ≤ y.toInt → (40 - y.toInt).toNat < m → ∃ B : Nat → Int32, g_X12_sleep_L16 I J ri rj rq x (va_up ri 384 A) (g_X12_sleep_L2 I J ri rj rq n) m b y = (I, J, va_up ri 384 B, rj, rq) ∧ zm (ri 384) B := by
          intro m
          induction m with
          | zero => intro b y _ h; exact absurd h (Nat.not_lt_zero _)
          | succ m im =>
            intro b y y1 y3
            rw [g_X12_sleep_L16_e]
            simp only [↓ap1_n]
            by_cases c2 : ri 384 2 ≤ y
            · rw [if_pos c2]
              exact inner _ _ _ _ (by decide) (Nat.lt_succ_self _) hA
            · have c3 := Int32.lt_iff_toInt_lt.mp (Int32.not_le.mp c2)
              have e2 := t1_inc (x := y) (by omega) (by omega)
              rw [if_neg c2, bn_p g_X12_cellAt_c0_f]
              simp only [g_X12_sleep_K48, ↓ap1_n]
              split
              · rw [bn_p g_X12_cellAt_c7_f]
                exact im _ _ (by omega) (by omega)
              · exact im _ _ (by omega) (by omega)
        exact beds _ _ _ (by decide) (Nat.lt_succ_self _)
  rw [g_X12_sleep_e]
  have h := go ((5 - (0 : Int32).toInt).toNat + 1) 0 (ri 384) (by decide) (Nat.lt_succ_self _) zm_rf
  rw [up_id] at h
  exact h
theorem fundGoes_f {m : Int32} (h2b : (ri 384 2).toInt ≤ 40) (h5b : (ri 384 5).toInt ≤ 40) : ∃ (I1 : Nat → Int32) (B : Nat → Int32), g_X12_fundGoes m I J ri rj rq = (I1, J, va_up ri 384 B, rj, rq) ∧ zm (ri 384) B ∧ ∀ f, f ≠ 410 → I1 f = I f := by
  have k8 : (8 : Int32).toNatClampNeg = 8 := by decide
  have k12 : (12 : Int32).toNatClampNeg = 12 := by decide
  have k18 : (18 : Int32).toNatClampNeg = 18 := by decide
  have go2 : ∀ (n : Nat) (x : Int32) (A : Nat → Int32) (I0 : Nat → Int32), 0 ≤ x.toInt → (40 - x.toInt).toNat < n → zm (ri 384) A → (∀ f, f ≠ 410 → I0 f = I f) → ∃ (I1 : Nat → Int32) (B : Nat → Int32), g_X12_fundGoes_L104 m J ri rj rq I0 n x (va_up ri 384 A) = (I1, J, va_up ri 384 B, rj, rq) ∧ zm (ri 384) B ∧ ∀ f, f ≠ 410 → I1 f = I f := by
    intro n
    induction n with
    | zero => intro x A I0 _ h; exact absurd h (Nat.not_lt_zero _)
    | succ n ih =>
      intro x A I0 h1 h3 hA hI
      rw [g_X12_fundGoes_L104_e]
      simp only [↓ap1_n, va_up_self, up_up, k8, k12]
      by_cases c : ri 384 2 ≤ x
      · rw [if_pos c]
        split
        · split
          · exact ⟨_, A, rfl, hA, fun f hf => (va_up_ne _ _ hf).trans (hI f hf)⟩
          · exact ⟨_, _, rfl, zm_tr hA (zm_f (Or.inr (Or.inl rfl))), fun f hf => (va_up_ne _ _ hf).trans (hI f hf)⟩
        · exact ⟨_, A, rfl, hA, hI⟩
      · have c1 := Int32.lt_iff_toInt_lt.mp (Int32.not_le.mp c)
        have e := t1_inc (x := x) (by omega) (by omega)
        rw [if_neg c, bn_p g_X12_cellAt_c6_f]
        simp only [g_X12_fundGoes_K141, ↓ap1_n]
        split
        · exact ih _ _ _ (by omega) (by omega) hA hI
        · exact ih _ _ _ (by omega) (by omega) (zm_tr hA (zm_f (Or.inl rfl))) hI
  have go : ∀ (n : Nat) (x : Int32) (A : Nat → Int32), 0 ≤ x.toInt → (40 - x.toInt).toNat < n → zm (ri 384) A → ∃ (I1 : Nat → Int32) (B : Nat → Int32), g_X12_fundGoes_L2 m I J ri rj rq n x (va_up ri 384 A) = (I1, J, va_up ri 384 B, rj, rq) ∧ zm (ri 384) B ∧ ∀ f, f ≠ 410 → I1 f = I f := by
    intro n
    induction n with
    | zero => intro x A _ h; exact absurd h (Nat.not_lt_zero _)
    | succ n ih =>
      intro x A h1 h3 hA
      rw [g_X12_fundGoes_L2_e]
      simp only [↓ap1_n]
      by_cases c : ri 384 5 ≤ x
      · rw [if_pos c]
        split
        · exact ⟨_, A, rfl, hA, fun f hf => va_up_ne _ _ hf⟩
        · rw [bn_p g_X12_areaOf_f, bn_p g_X12_numberOf_f]
          simp only [va_up_self, up_up, k8, k18]
          exact go2 _ _ _ _ (by decide) (Nat.lt_succ_self _) (zm_tr hA (zm_tr (zm_f (Or.inr (Or.inr rfl))) (zm_f (Or.inl rfl)))) (fun f hf => va_up_ne _ _ hf)
      · have c1 := Int32.lt_iff_toInt_lt.mp (Int32.not_le.mp c)
        have e := t1_inc (x := x) (by omega) (by omega)
        rw [if_neg c, bn_p g_X12_personAt_c3_f]
        simp only [g_X12_fundGoes_K40, ↓ap1_n]
        split
        · rw [bn_p g_X12_personAt_c4_f]
          simp only [va_up_self, up_up, k8]
          exact ih _ _ (by omega) (by omega) (zm_tr hA (zm_f (Or.inl rfl)))
        · exact ih _ _ (by omega) (by omega) hA
  rw [g_X12_fundGoes_e]
  have h := go ((40 - (0 : Int32).toInt).toNat + 1) 0 (ri 384) (by decide) (Nat.lt_succ_self _) zm_rf
  rw [up_id] at h
  exact h
end PU7
