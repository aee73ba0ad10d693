/-! ===== the reference: one array with areas ===== -/
theorem rg_m255 (x : Int32) : rg (x &&& 255) 0 255 := by
  obtain ⟨j, hj, e⟩ := pk_andE x (m := 255) 8 (by decide +kernel)
  rw [e]
  have h := nI_toInt (n := j) (by omega)
  exact ⟨by omega, by omega⟩
theorem i_mul_rg {x y : Int32} {a b c d a2 b2 : Int} (e1 : x.toInt = a2) (e2 : y.toInt = b2) (hx : rg x a b) (hy : rg y c d) (h : 0 ≤ a ∧ 0 ≤ c ∧ b * d ≤ 2147483647) : (x * y).toInt = a2 * b2 := by
  have h1 := rg_mul (lo := 0) (hi := 2147483647) hx hy ⟨h, Int.mul_nonneg h.1 h.2.1, h.2.2⟩
  obtain ⟨x1, x2⟩ := hx
  obtain ⟨y1, y2⟩ := hy
  have p2 : x.toInt * y.toInt ≤ b * d := Int.mul_le_mul x2 y2 (Int.le_trans h.2.1 y1) (Int.le_trans h.1 (Int.le_trans x1 x2))
  have p3 : 0 ≤ x.toInt * y.toInt := Int.mul_nonneg (Int.le_trans h.1 x1) (Int.le_trans h.2.1 y1)
  rw [e1, e2] at p2 p3
  exact i_mul e1 e2 (by omega) (by omega)
def zn (i : Nat) : Nat := if i < 20 then i else if i < 80 then 100 + (i - 20) % 5 else if i < 85 then 200 else if i < 100 then 999 else if i < 740 then 300 + (i - 100) % 16 else if i < 1220 then 400 + (i - 740) % 12 else if i < 2220 then 500 + (i - 1220) % 5 else if i < 2340 then 600 + (i - 2220) % 4 else if i < 2400 then 999 else if i < 2520 then 700 + (i - 2400) % 4 else if i < 3720 then 800 + (i - 2520) % 2 else if i < 12720 then (if (i - 3720) % 900 = 0 then 900 else if (i - 3720) % 900 < 241 then 910 + ((i - 3720) % 900 - 1) % 12 else if (i - 3720) % 900 < 250 then 999 else 930 + ((i - 3720) % 900 - 250) % 2) else 999
def rIml : List (Int × Int) := [(-2147483648, 2147483647), (-2147483648, 2147483647), (-2147483648, 2147483647), (-2147483648, 2147483647), (0, 300), ((-2147483648), 2147483647), ((-2147483648), 2147483647), (0, 300), (0, 300), ((-2147483648), 2147483647), ((-2147483648), 2147483647), (-2147483648, 2147483647), (0, 11820), (0, 20), (0, 300), ((-2147483648), 2147483647), (-2147483648, 2147483647), (0, 160), ((-2147483648), 2147483647), (0, 1), (-2147483648, 2147483647), (-2147483648, 2147483647), ((-1), 12060), ((-2147483648), 2147483647), (-2147483648, 2147483647), (-2147483648, 2147483647), ((-2147483648), 2147483647), (-2147483648, 2147483647), (-2147483648, 2147483647), (-2147483648, 2147483647), (-2147483648, 2147483647)]
def rIm (f : Nat) : Int × Int := if f < 384 then (-2147483648, 2147483647) else (rIml[f - 384]?).getD (-2147483648, 2147483647)
def rAml : List (Int × Int) := [((-2147483648), 2147483647), ((-2147483648), 2147483647), ((-2147483648), 2147483647), (0, 255), (-2147483648, 2147483647), (-2147483648, 2147483647), (-2147483648, 2147483647), (-2147483648, 2147483647), (-2147483648, 2147483647), (-2147483648, 2147483647), (-2147483648, 2147483647), (-2147483648, 2147483647), (-2147483648, 2147483647), (-2147483648, 2147483647), (-2147483648, 2147483647), (-2147483648, 2147483647), (0, 40), (-2147483648, 2147483647), (-2147483648, 2147483647), (-2147483648, 2147483647), (-2147483648, 2147483647), (0, 1), (-2147483648, 2147483647), (-2147483648, 2147483647), ((-2147483648), 2147483647), ((-2147483648), 2147483647), (-2147483648, 2147483647), (0, 39), (0, 1), ((-2147483648), 2147483647), (0, 4)]
def rAm (f : Nat) : Int × Int := if f < 384 then (-2147483648, 2147483647) else (rAml[f - 384]?).getD (-2147483648, 2147483647)
abbrev cfm : List Nat := [391, 388, 401, 402, 398, 393, 396, 392, 397, 389, 390]
def rztl : List (Nat × Int × Int) := [(0, 0, 600), (1, 0, 5), (2, 0, 40), (3, 0, 200), (4, 0, 5), (5, 0, 40), (6, 0, 10), (7, 0, 30), (10, 0, 30), (314, (-1), 39), (403, 0, 300), (600, 0, 9), (900, 0, 20), (914, 0, 4)]
def rzt (z : Nat) : Int × Int := (rztl.lookup z).getD (-2147483648, 2147483647)
theorem zn_TABLE {i c k : Nat} (e : i = 20 + 5 * c + k) (hc : c < 12) (hk : k < 5) : zn i = 100 + k := by
  subst e
  unfold zn
  repeat (first | rw [if_neg (by omega)] | rw [if_pos (by omega)])
  omega
theorem zn_LOT1 {i : Nat} (h : 80 ≤ i ∧ i < 85) : zn i = 200 := by
  unfold zn
  repeat (first | rw [if_neg (by omega)] | rw [if_pos (by omega)])
theorem zn_CELL {i c k : Nat} (e : i = 100 + 16 * c + k) (hc : c < 40) (hk : k < 16) : zn i = 300 + k := by
  subst e
  unfold zn
  repeat (first | rw [if_neg (by omega)] | rw [if_pos (by omega)])
  omega
theorem zn_PERSON {i c k : Nat} (e : i = 740 + 12 * c + k) (hc : c < 40) (hk : k < 12) : zn i = 400 + k := by
  subst e
  unfold zn
  repeat (first | rw [if_neg (by omega)] | rw [if_pos (by omega)])
  omega
theorem zn_LEVEL {i c k : Nat} (e : i = 1220 + 5 * c + k) (hc : c < 200) (hk : k < 5) : zn i = 500 + k := by
  subst e
  unfold zn
  repeat (first | rw [if_neg (by omega)] | rw [if_pos (by omega)])
  omega
theorem zn_FORCE {i c k : Nat} (e : i = 2220 + 4 * c + k) (hc : c < 30) (hk : k < 4) : zn i = 600 + k := by
  subst e
  unfold zn
  repeat (first | rw [if_neg (by omega)] | rw [if_pos (by omega)])
  omega
theorem zn_GRAVE {i c k : Nat} (e : i = 2400 + 4 * c + k) (hc : c < 30) (hk : k < 4) : zn i = 700 + k := by
  subst e
  unfold zn
  repeat (first | rw [if_neg (by omega)] | rw [if_pos (by omega)])
  omega
theorem zn_ROCKS {i c k : Nat} (e : i = 2520 + 2 * c + k) (hc : c < 600) (hk : k < 2) : zn i = 800 + k := by
  subst e
  unfold zn
  repeat (first | rw [if_neg (by omega)] | rw [if_pos (by omega)])
  omega
theorem zn_t0 {i t : Nat} (e : i = 3720 + 900 * t) (ht : t < 10) : zn i = 900 := by
  subst e
  unfold zn
  repeat (first | rw [if_neg (by omega)] | rw [if_pos (by omega)])
theorem zn_tc {i t c k : Nat} (e : i = 3721 + 900 * t + 12 * c + k) (ht : t < 10) (hc : c < 20) (hk : k < 12) : zn i = 910 + k := by
  subst e
  unfold zn
  repeat (first | rw [if_neg (by omega)] | rw [if_pos (by omega)])
  omega
theorem zn_tk {i t c k : Nat} (e : i = 3970 + 900 * t + 2 * c + k) (ht : t < 10) (hc : c < 325) (hk : k < 2) : zn i = 930 + k := by
  subst e
  unfold zn
  repeat (first | rw [if_neg (by omega)] | rw [if_pos (by omega)])
  omega
/-- what a clause's code does with the values and the truths: how many there are, and whether there were enough -/
def stp (o : Int32) (s : Int × Int × Bool) : Int × Int × Bool :=
  if o.toInt ≤ 1 then (s.1 + 1, s.2.1, s.2.2)
  else if o.toInt = 2 then (s.1, s.2.1, s.2.2 && decide (1 ≤ s.1))
  else if o.toInt < 10 then (s.1 - 1, s.2.1, s.2.2 && decide (2 ≤ s.1))
  else if o.toInt < 20 then (s.1 - 2, s.2.1 + 1, s.2.2 && decide (2 ≤ s.1))
  else if o.toInt = 20 then (s.1, s.2.1, s.2.2 && decide (1 ≤ s.2.1))
  else (s.1, s.2.1 - 1, s.2.2 && decide (2 ≤ s.2.1))
def rnn (f : Nat → Int32) (b : Nat) : Nat → Int × Int × Bool
  | 0 => (0, 0, true)
  | k + 1 => stp (f (b + 2 * k)) (rnn f b k)
theorem rnn_cg {f g : Nat → Int32} {b : Nat} : ∀ k : Nat, (∀ j, j < k → g (b + 2 * j) = f (b + 2 * j)) → rnn g b k = rnn f b k := by
  intro k
  induction k with
  | zero => intro _; rfl
  | succ k ih =>
    intro h
    show stp _ _ = stp _ _
    rw [h k (Nat.lt_succ_self _), ih (fun j hj => h j (Nat.lt_succ_of_lt hj))]
theorem stp_ok {o : Int32} {s : Int × Int × Bool} (h : (stp o s).2.2 = true) : s.2.2 = true := by
  unfold stp at h
  repeat' split at h
  all_goals (first | exact h | (simp only [Bool.and_eq_true] at h; exact h.1))
theorem rnn_ok {f : Nat → Int32} {b : Nat} : ∀ (k j : Nat), j ≤ k → (rnn f b k).2.2 = true → (rnn f b j).2.2 = true := by
  intro k
  induction k with
  | zero => intro j hj h; have : j = 0 := by omega
            subst this; exact h
  | succ k ih =>
    intro j hj h
    by_cases e : j = k + 1
    · subst e; exact h
    · exact ih j (by omega) (stp_ok h)
def TXT (f : Nat → Int32) : Prop := ∀ t : Nat, (t : Int) < (f 6).toInt → ∀ c : Nat, (c : Int) < (f (3720 + 900 * t)).toInt → 1 ≤ (f (3721 + 900 * t + 12 * c)).toInt → (f (3721 + 900 * t + 12 * c)).toInt ≤ 4 → 0 ≤ (f (3721 + 900 * t + 12 * c + 2)).toInt ∧ (f (3721 + 900 * t + 12 * c + 2)).toInt ≤ (f (3721 + 900 * t + 12 * c + 3)).toInt ∧ (f (3721 + 900 * t + 12 * c + 3)).toInt ≤ 300 ∧ (rnn f (3970 + 900 * t + 2 * (f (3721 + 900 * t + 12 * c + 2)).toNatClampNeg) ((f (3721 + 900 * t + 12 * c + 3)).toNatClampNeg - (f (3721 + 900 * t + 12 * c + 2)).toNatClampNeg)).2.2 = true
def FRC (f : Nat → Int32) : Prop := ∀ g : Nat, (g : Int) < (f 7).toInt → (f (2220 + 4 * g)).toInt < (f 6).toInt
def GA (f : Nat → Int32) : Prop := ((∀ i, rg (f i) (rzt (zn i)).1 (rzt (zn i)).2) ∧ ∀ i, zn i = 403 → (f i).toInt < 5 ∨ 100 ≤ (f i).toInt) ∧ TXT f ∧ FRC f
/-- the zones that the texts and the forces look at -/
def zsp (k : Nat) : Prop := k = 6 ∨ k = 7 ∨ k = 600 ∨ (900 ≤ k ∧ k < 999)
theorem GA_ne {f : Nat → Int32} {i j k : Nat} {x : Int32} (e : zn i = k) (hj : zn j ≠ k) : upd f i x j = f j := by
  unfold upd
  rw [if_neg (fun q => hj (by rw [q, e]))]
theorem GA_r {f : Nat → Int32} (h : GA f) {i k : Nat} {lo hi : Int} (e : zn i = k) (e2 : rzt k = (lo, hi)) : rg (f i) lo hi := by
  have h1 := h.1.1 i
  rw [e, e2] at h1
  exact h1
theorem zn_6 : zn 6 = 6 := by decide +kernel
theorem zn_7 : zn 7 = 7 := by decide +kernel
theorem GA_sp {f g : Nat → Int32} (h : GA f) (hg : ∀ j, zsp (zn j) → g j = f j) : TXT g ∧ FRC g := by
  have h6 : g 6 = f 6 := hg 6 (Or.inl zn_6)
  have h7 : g 7 = f 7 := hg 7 (Or.inr (Or.inl zn_7))
  have r6 := GA_r h zn_6 (lo := 0) (hi := 10) rfl
  have r7 := GA_r h zn_7 (lo := 0) (hi := 30) rfl
  obtain ⟨r6a, r6b⟩ := r6
  obtain ⟨r7a, r7b⟩ := r7
  refine ⟨fun t ht c hc h1 h2 => ?_, fun q hq => ?_⟩
  · rw [h6] at ht
    have ht10 : t < 10 := by omega
    have e0 : zn (3720 + 900 * t) = 900 := zn_t0 rfl ht10
    have g0 : g (3720 + 900 * t) = f (3720 + 900 * t) := hg _ (by rw [e0]; exact Or.inr (Or.inr (Or.inr (by decide +kernel))))
    rw [g0] at hc
    have r0 := GA_r h e0 (lo := 0) (hi := 20) rfl
    obtain ⟨r0a, r0b⟩ := r0
    have hc20 : c < 20 := by omega
    have gk : ∀ k, k < 12 → g (3721 + 900 * t + 12 * c + k) = f (3721 + 900 * t + 12 * c + k) := fun k hk => hg _ (by rw [zn_tc rfl ht10 hc20 hk]; exact Or.inr (Or.inr (Or.inr ⟨by omega, by omega⟩)))
    have gk0 : g (3721 + 900 * t + 12 * c) = f (3721 + 900 * t + 12 * c) := gk 0 (by decide +kernel)
    rw [gk0] at h1 h2
    obtain ⟨w1, w2, w3, w4⟩ := h.2.1 t ht c hc h1 h2
    rw [gk 2 (by decide +kernel), gk 3 (by decide +kernel)]
    refine ⟨w1, w2, w3, ?_⟩
    rw [rnn_cg _ (fun j hj => ?_)]
    · exact w4
    · refine hg _ ?_
      have z1 := clampE (f (3721 + 900 * t + 12 * c + 2))
      have z2 := clampE (f (3721 + 900 * t + 12 * c + 3))
      have ez : zn (3970 + 900 * t + 2 * (f (3721 + 900 * t + 12 * c + 2)).toNatClampNeg + 2 * j) = 930 + 0 := zn_tk (c := (f (3721 + 900 * t + 12 * c + 2)).toNatClampNeg + j) (by omega) ht10 (by omega) (by decide +kernel)
      rw [ez]
      exact Or.inr (Or.inr (Or.inr (by decide +kernel)))
  · rw [h7] at hq
    have hq30 : q < 30 := by omega
    have ef : zn (2220 + 4 * q) = 600 := zn_FORCE (k := 0) rfl hq30 (by decide +kernel)
    rw [hg _ (by rw [ef]; exact Or.inr (Or.inr (Or.inl rfl))), h6]
    exact h.2.2 q hq
theorem GA_w {f : Nat → Int32} (h : GA f) {i k : Nat} {x : Int32} {lo hi : Int} (e : zn i = k) (e2 : rzt k = (lo, hi)) (hx : rg x lo hi) (hk : ¬ zsp k) (hh : k = 403 → x.toInt < 5 ∨ 100 ≤ x.toInt) : GA (upd f i x) := by
  refine ⟨⟨fun j => ?_, fun j hj => ?_⟩, GA_sp h (fun j hj => GA_ne e (fun q => hk (q ▸ hj)))⟩
  · unfold upd
    split
    · next q => rw [q, e, e2]; exact hx
    · exact h.1.1 j
  · unfold upd
    split
    · next q => rw [q, e] at hj; exact hh hj
    · exact h.1.2 j hj
theorem zsp_no {k : Nat} (h : (k ≠ 6 ∧ k ≠ 7 ∧ k ≠ 600) ∧ (k < 900 ∨ 999 ≤ k)) : ¬ zsp k := by
  unfold zsp
  omega
def vN (f : Nat → Int32) (b : Nat) (fr i : Int) : Int := (rnn f b (i - fr).toNat).1
def tN (f : Nat → Int32) (b : Nat) (fr i : Int) : Int := (rnn f b (i - fr).toNat).2.1
def oN (f : Nat → Int32) (b : Nat) (fr i : Int) : Prop := (rnn f b (i - fr).toNat).2.2 = true
theorem rnn_s {f : Nat → Int32} {b : Nat} {fr i : Int} (h : fr ≤ i) : rnn f b (i + 1 - fr).toNat = stp (f (b + 2 * (i - fr).toNat)) (rnn f b (i - fr).toNat) := by
  have e : (i + 1 - fr).toNat = (i - fr).toNat + 1 := by omega
  rw [e]
  rfl
theorem rnn_b {f : Nat → Int32} {b : Nat} : ∀ k : Nat, (rnn f b k).2.2 = true → (0 ≤ (rnn f b k).1 ∧ (rnn f b k).1 ≤ k) ∧ 0 ≤ (rnn f b k).2.1 ∧ (rnn f b k).2.1 ≤ k := by
  intro k
  induction k with
  | zero => intro _; exact ⟨⟨Int.le_refl _, Int.le_refl _⟩, Int.le_refl _, Int.le_refl _⟩
  | succ k ih =>
    intro h
    have h0 := ih (stp_ok h)
    have h2 : (stp (f (b + 2 * k)) (rnn f b k)).2.2 = true := h
    show (0 ≤ (stp (f (b + 2 * k)) (rnn f b k)).1 ∧ (stp (f (b + 2 * k)) (rnn f b k)).1 ≤ ((k + 1 : Nat) : Int)) ∧ 0 ≤ (stp (f (b + 2 * k)) (rnn f b k)).2.1 ∧ (stp (f (b + 2 * k)) (rnn f b k)).2.1 ≤ ((k + 1 : Nat) : Int)
    generalize rnn f b k = s at h0 h2
    unfold stp at h2 ⊢
    repeat' split at h2
    all_goals (repeat (first | rw [if_pos (by assumption)] | rw [if_neg (by assumption)]))
    all_goals (try simp only [Bool.and_eq_true, decide_eq_true_eq] at h2)
    all_goals (dsimp only; omega)
theorem oN_b {f : Nat → Int32} {b : Nat} {fr i : Int} (h : oN f b fr i) (hi : fr ≤ i) : (0 ≤ vN f b fr i ∧ vN f b fr i ≤ i - fr) ∧ 0 ≤ tN f b fr i ∧ tN f b fr i ≤ i - fr := by
  have h1 := rnn_b _ h
  unfold vN tN
  omega
theorem oN_le {f : Nat → Int32} {b : Nat} {fr i j : Int} (h : oN f b fr j) (hi : i ≤ j) : oN f b fr i := rnn_ok _ _ (by omega) h
section STP
variable {f : Nat → Int32} {b : Nat} {fr i : Int} {o : Int32}
theorem is_1 (h : fr ≤ i) (e : f (b + 2 * (i - fr).toNat) = o) (ho : o.toInt ≤ 1) : vN f b fr (i + 1) = vN f b fr i + 1 ∧ tN f b fr (i + 1) = tN f b fr i := by
  unfold vN tN
  rw [rnn_s h, e]
  unfold stp
  rw [if_pos ho]
  exact ⟨rfl, rfl⟩
theorem is_2 (h : fr ≤ i) (e : f (b + 2 * (i - fr).toNat) = o) (ho : o.toInt = 2) (hk : oN f b fr (i + 1)) : (vN f b fr (i + 1) = vN f b fr i ∧ tN f b fr (i + 1) = tN f b fr i) ∧ 1 ≤ vN f b fr i := by
  unfold oN at hk
  unfold vN tN
  rw [rnn_s h, e] at hk ⊢
  unfold stp at hk ⊢
  rw [if_neg (by omega), if_pos ho] at hk ⊢
  simp only [Bool.and_eq_true, decide_eq_true_eq] at hk
  exact ⟨⟨rfl, rfl⟩, hk.2⟩
theorem is_3 (h : fr ≤ i) (e : f (b + 2 * (i - fr).toNat) = o) (ho : 2 < o.toInt ∧ o.toInt < 10) (hk : oN f b fr (i + 1)) : (vN f b fr (i + 1) = vN f b fr i - 1 ∧ tN f b fr (i + 1) = tN f b fr i) ∧ 2 ≤ vN f b fr i := by
  unfold oN at hk
  unfold vN tN
  rw [rnn_s h, e] at hk ⊢
  unfold stp at hk ⊢
  rw [if_neg (by omega), if_neg (by omega), if_pos ho.2] at hk ⊢
  simp only [Bool.and_eq_true, decide_eq_true_eq] at hk
  exact ⟨⟨rfl, rfl⟩, hk.2⟩
theorem is_4 (h : fr ≤ i) (e : f (b + 2 * (i - fr).toNat) = o) (ho : 10 ≤ o.toInt ∧ o.toInt < 20) (hk : oN f b fr (i + 1)) : (vN f b fr (i + 1) = vN f b fr i - 2 ∧ tN f b fr (i + 1) = tN f b fr i + 1) ∧ 2 ≤ vN f b fr i := by
  unfold oN at hk
  unfold vN tN
  rw [rnn_s h, e] at hk ⊢
  unfold stp at hk ⊢
  rw [if_neg (by omega), if_neg (by omega), if_neg (by omega), if_pos ho.2] at hk ⊢
  simp only [Bool.and_eq_true, decide_eq_true_eq] at hk
  exact ⟨⟨rfl, rfl⟩, hk.2⟩
theorem is_5 (h : fr ≤ i) (e : f (b + 2 * (i - fr).toNat) = o) (ho : o.toInt = 20) (hk : oN f b fr (i + 1)) : (vN f b fr (i + 1) = vN f b fr i ∧ tN f b fr (i + 1) = tN f b fr i) ∧ 1 ≤ tN f b fr i := by
  unfold oN at hk
  unfold vN tN
  rw [rnn_s h, e] at hk ⊢
  unfold stp at hk ⊢
  rw [if_neg (by omega), if_neg (by omega), if_neg (by omega), if_neg (by omega), if_pos ho] at hk ⊢
  simp only [Bool.and_eq_true, decide_eq_true_eq] at hk
  exact ⟨⟨rfl, rfl⟩, hk.2⟩
theorem is_6 (h : fr ≤ i) (e : f (b + 2 * (i - fr).toNat) = o) (ho : 20 < o.toInt) (hk : oN f b fr (i + 1)) : (vN f b fr (i + 1) = vN f b fr i ∧ tN f b fr (i + 1) = tN f b fr i - 1) ∧ 2 ≤ tN f b fr i := by
  unfold oN at hk
  unfold vN tN
  rw [rnn_s h, e] at hk ⊢
  unfold stp at hk ⊢
  rw [if_neg (by omega), if_neg (by omega), if_neg (by omega), if_neg (by omega), if_neg (by omega)] at hk ⊢
  simp only [Bool.and_eq_true, decide_eq_true_eq] at hk
  exact ⟨⟨rfl, rfl⟩, hk.2⟩
end STP
abbrev zt (t : Nat) : Bool := t == 384 || t == 385 || t == 386
abbrev ztl : List Nat := [0, 1, 2, 3, 4, 5, 6, 7, 10, 13, 14, 15, 500, 501, 502, 503, 504, 100, 101, 102, 103, 104, 300, 301, 304, 305, 306, 308, 403, 700, 701, 702]
abbrev frl : List (Nat × Nat) := [(385, 2000), (386, 2001), (414, 2002), (387, 2003)]
/-- where the keys are: nowhere, or a clause of a text -/
def kv (x : Int32) : Prop := x.toInt = -1 ∨ x.toInt = 0 ∨ ∃ t c : Nat, t < 10 ∧ c < 20 ∧ x.toInt = 3721 + 900 * t + 12 * c
def GT (tg : Nat → Nat) (I ri : Nat → Nat → Int32) : Prop := (∀ f a, rg (I f a) (rIm f).1 (rIm f).2) ∧ (∀ q j, rg (ri q j) (rAm (tg q)).1 (rAm (tg q)).2) ∧ (∀ q, zt (tg q) = true → GA (ri q)) ∧ ∀ a, kv (I 406 a)
def GM (X : List Nat) (tg : Nat → Nat) (_ : pq_S) (I0 r0 I ri : Nat → Nat → Int32) (_ : Nat → Nat → Option Nat) : Prop := GT tg I ri ∧ (∀ f, f ∈ cfm → f ∉ X → I f = I0 f) ∧ (∀ q, tg q = 384 → ∀ j, zn j ∈ ztl → 1000 + zn j ∉ X → ri q j = r0 q j) ∧ ∀ t c, (t, c) ∈ frl → c ∉ X → ∀ q, tg q = t → ri q = r0 q
section GMS
variable {X Y : List Nat} {tg : Nat → Nat} {σ : pq_S} {I0 r0 I I1 ri r1 : Nat → Nat → Int32} {rq q1 : Nat → Nat → Option Nat}
theorem GM.rI (h : GM X tg σ I0 r0 I ri rq) (f : Nat) {lo hi : Int} {a : Nat} (e : rIm f = (lo, hi)) : rg (I f a) lo hi := by
  have h1 := h.1.1 f a
  rw [e] at h1
  exact h1
theorem GM.rR (h : GM X tg σ I0 r0 I ri rq) {q j t : Nat} {lo hi : Int} (ht : tg q = t) (e : rAm t = (lo, hi)) : rg (ri q j) lo hi := by
  have h1 := h.1.2.1 q j
  rw [ht, e] at h1
  exact h1
theorem GT.frc (h : GT tg I ri) {q : Nat} (hz : zt (tg q) = true) (g : Nat) (hg : (g : Int) < (ri q 7).toInt) : (ri q (2220 + 4 * g)).toInt < (ri q 6).toInt := (h.2.2.1 q hz).2.2 g hg
theorem GM.z0 (h : GT tg I ri) {q i k : Nat} {lo hi : Int} (hz : zt (tg q) = true) (e : zn i = k) (e2 : rzt k = (lo, hi)) : rg (ri q i) lo hi := by
  exact GA_r (h.2.2.1 q hz) e e2
theorem GM.z (h : GM X tg σ I0 r0 I ri rq) {q i k : Nat} {lo hi : Int} (hz : zt (tg q) = true) (e : zn i = k) (e2 : rzt k = (lo, hi)) : rg (ri q i) lo hi := by
  exact GA_r (h.1.2.2.1 q hz) e e2
theorem GM.hole (h : GM X tg σ I0 r0 I ri rq) {q i : Nat} (hz : zt (tg q) = true) (e : zn i = 403) : (ri q i).toInt < 5 ∨ 100 ≤ (ri q i).toInt := (h.1.2.2.1 q hz).1.2 i e
theorem GM.wI (h : GM X tg σ I0 r0 I ri rq) (f : Nat) {lo hi : Int} {a : Nat} {v : Int32} (e : rIm f = (lo, hi)) (e1 : I1 = pq_u I f a v) (hv : rg v lo hi) (hf : (f ∉ cfm ∨ f ∈ X) ∧ f ≠ 406) : GM X tg σ I0 r0 I1 ri rq := by
  subst e1
  refine ⟨⟨fun g b => ?_, h.1.2.1, h.1.2.2.1, fun b => by rw [pq_uf _ _ _ (Ne.symm hf.2)]; exact h.1.2.2.2 b⟩, fun g hg hx => ?_, h.2.2⟩
  · by_cases hgf : g = f
    · subst hgf
      by_cases hb : b = a
      · subst hb
        rw [pq_us, e]
        exact hv
      · rw [pq_ua _ _ _ _ hb]
        exact h.1.1 g b
    · rw [pq_uf _ _ _ hgf]
      exact h.1.1 g b
  · have hgf : g ≠ f := fun q => by
      subst q
      rcases hf.1 with z | z
      · exact z hg
      · exact hx z
    rw [pq_uf _ _ _ hgf]
    exact h.2.1 g hg hx
theorem GM.wK (h : GM X tg σ I0 r0 I ri rq) {lo hi : Int} {a : Nat} {v : Int32} (e : rIm 406 = (lo, hi)) (e1 : I1 = pq_u I 406 a v) (hv : rg v lo hi) (hk : kv v) (hf : 406 ∉ cfm) : GM X tg σ I0 r0 I1 ri rq := by
  subst e1
  refine ⟨⟨fun g b => ?_, h.1.2.1, h.1.2.2.1, fun b => ?_⟩, fun g hg hx => ?_, h.2.2⟩
  · by_cases hgf : g = 406
    · subst hgf
      by_cases hb : b = a
      · subst hb
        rw [pq_us, e]
        exact hv
      · rw [pq_ua _ _ _ _ hb]
        exact h.1.1 _ b
    · rw [pq_uf _ _ _ hgf]
      exact h.1.1 g b
  · by_cases hb : b = a
    · subst hb
      rw [pq_us]
      exact hk
    · rw [pq_ua _ _ _ _ hb]
      exact h.1.2.2.2 b
  · rw [pq_uf _ _ _ (fun q => by rw [q] at hg; exact hf hg)]
    exact h.2.1 g hg hx
theorem GT.kv4 (h : GT tg I ri) {q a : Nat} {v : Int32} (hz : zt (tg q) = true) (e : v.toInt = (I 406 a).toInt + 4) : rg (ri q v.toNatClampNeg) 0 200 := by
  have ce := clampE v
  rcases h.2.2.2 a with h1 | h1 | ⟨t, c, ht, hc, h1⟩
  · rw [show v.toNatClampNeg = 3 from by omega]
    exact GA_r (h.2.2.1 q hz) (k := 3) (by decide +kernel) rfl
  · rw [show v.toNatClampNeg = 4 from by omega]
    exact rg_w (GA_r (h.2.2.1 q hz) (k := 4) (lo := 0) (hi := 5) (by decide +kernel) rfl) (by decide +kernel)
  · exact rg_w (GA_r (h.2.2.1 q hz) (k := 910 + 4) (lo := 0) (hi := 4) (zn_tc (t := t) (c := c) (k := 4) (by omega) ht hc (by decide +kernel)) rfl) (by decide +kernel)
theorem GM.wR (h : GM X tg σ I0 r0 I ri rq) (_ : SH σ tg) {q t : Nat} {i v : Int32} {lo hi : Int} (ht : tg q = t) (e : rAm t = (lo, hi)) (e1 : r1 = va_up ri q (upd (ri q) i.toNatClampNeg v)) (hv : rg v lo hi) (hn : zt t = false ∧ ∀ p ∈ frl, p.1 = t → p.2 ∈ X) : GM X tg σ I0 r0 I r1 rq := by
  subst e1
  have hne : ∀ b, zt (tg b) = true → b ≠ q := fun b hb e => by rw [e, ht, hn.1] at hb; cases hb
  refine ⟨⟨h.1.1, fun p j => ?_, fun b hb => ?_, h.1.2.2.2⟩, h.2.1, fun b hb j hj hx => ?_, fun t2 c hc hx b hb => ?_⟩
  · by_cases hp : p = q
    · subst hp
      rw [va_up_self]
      unfold upd
      split
      · rw [ht, e]
        exact hv
      · exact h.1.2.1 p j
    · rw [va_up_ne _ _ hp]
      exact h.1.2.1 p j
  · rw [va_up_ne _ _ (hne b hb)]
    exact h.1.2.2.1 b hb
  · rw [va_up_ne _ _ (hne b (by rw [hb]; decide))]
    exact h.2.2.1 b hb j hj hx
  · have hp : b ≠ q := fun z => by
      rw [z, ht] at hb
      exact hx (hn.2 (t2, c) hc hb.symm)
    rw [va_up_ne _ _ hp]
    exact h.2.2.2 t2 c hc hx b hb
theorem GM.wz0 (h : GM X tg σ I0 r0 I ri rq) {q t k : Nat} {v x : Int32} {lo hi : Int} (ht : tg q = t) (hz : zt t = true) (hr : rAm t = (-2147483648, 2147483647)) (e1 : r1 = va_up ri q (upd (ri q) v.toNatClampNeg x)) (e : zn v.toNatClampNeg = k) (e2 : rzt k = (lo, hi)) (hx : rg x lo hi) (hX : (k ∉ ztl ∨ 1000 + k ∈ X) ∧ ∀ p ∈ frl, p.1 = t → p.2 ∈ X) (hG : GA (ri q) → GA (upd (ri q) v.toNatClampNeg x)) (_ : k = 403 → x.toInt < 5 ∨ 100 ≤ x.toInt) : GM X tg σ I0 r0 I r1 rq := by
  subst e1
  refine ⟨⟨h.1.1, fun p j => ?_, fun b hb => ?_, h.1.2.2.2⟩, h.2.1, fun b hb j hj hx2 => ?_, fun t2 c hc hx2 b hb => ?_⟩
  · by_cases hp : p = q
    · subst hp
      rw [ht, hr]
      exact rg_full _
    · rw [va_up_ne _ _ hp]
      exact h.1.2.1 p j
  · by_cases hp : b = q
    · subst hp
      rw [va_up_self]
      exact hG (h.1.2.2.1 b hb)
    · rw [va_up_ne _ _ hp]
      exact h.1.2.2.1 b hb
  · by_cases hp : b = q
    · subst hp
      rw [va_up_self]
      unfold upd
      split
      · next q =>
        rw [q, e] at hj hx2
        rcases hX.1 with z | z
        · exact absurd hj z
        · exact absurd z hx2
      · exact h.2.2.1 b hb j hj hx2
    · rw [va_up_ne _ _ hp]
      exact h.2.2.1 b hb j hj hx2
  · have hp : b ≠ q := fun z => by
      rw [z, ht] at hb
      exact hx2 (hX.2 (t2, c) hc hb.symm)
    rw [va_up_ne _ _ hp]
    exact h.2.2.2 t2 c hc hx2 b hb
theorem GM.wz (h : GM X tg σ I0 r0 I ri rq) {q t k : Nat} {v x : Int32} {lo hi : Int} (ht : tg q = t) (hz : zt t = true ∧ rAm t = (-2147483648, 2147483647)) (e1 : r1 = va_up ri q (upd (ri q) v.toNatClampNeg x)) (e : zn v.toNatClampNeg = k) (e2 : rzt k = (lo, hi)) (hx : rg x lo hi) (hX : ((k ∉ ztl ∨ 1000 + k ∈ X) ∧ ∀ p ∈ frl, p.1 = t → p.2 ∈ X) ∧ k ≠ 403 ∧ (k ≠ 6 ∧ k ≠ 7 ∧ k ≠ 600) ∧ (k < 900 ∨ 999 ≤ k)) : GM X tg σ I0 r0 I r1 rq := GM.wz0 h ht hz.1 hz.2 e1 e e2 hx hX.1 (fun hG => GA_w hG e e2 hx (zsp_no hX.2.2) (fun q => absurd q hX.2.1)) (fun q => absurd q hX.2.1)
theorem GM.wp (h : GM X tg σ I0 r0 I ri rq) {q t : Nat} {v x : Int32} (ht : tg q = t) (hz : zt t = true ∧ rAm t = (-2147483648, 2147483647)) (e1 : r1 = va_up ri q (upd (ri q) v.toNatClampNeg x)) (e : zn v.toNatClampNeg = 403) (hx : rg x 0 300) (hh : x.toInt < 5 ∨ 100 ≤ x.toInt) (hX : 1403 ∈ X ∧ ∀ p ∈ frl, p.1 = t → p.2 ∈ X) : GM X tg σ I0 r0 I r1 rq := GM.wz0 h ht hz.1 hz.2 e1 e (lo := 0) (hi := 300) rfl hx ⟨Or.inr hX.1, hX.2⟩ (fun hG => GA_w hG e (lo := 0) (hi := 300) rfl hx (zsp_no (by decide +kernel)) (fun _ => hh)) (fun _ => hh)
theorem GM.tr (h : GM X tg σ I0 r0 I ri rq) (h1 : GM Y tg σ I ri I1 r1 q1) (hs : ∀ f ∈ Y, f ∈ X) : GM X tg σ I0 r0 I1 r1 q1 := ⟨h1.1, fun f hf hx => (h1.2.1 f hf (fun q => hx (hs f q))).trans (h.2.1 f hf hx), fun q hq j hj hx => (h1.2.2.1 q hq j hj (fun z => hx (hs _ z))).trans (h.2.2.1 q hq j hj hx), fun t c hc hx q hq => (h1.2.2.2 t c hc (fun z => hx (hs _ z)) q hq).trans (h.2.2.2 t c hc hx q hq)⟩
theorem GM.cp (h : GM X tg σ I0 r0 I ri rq) {p q s t : Nat} (hp : tg p = s) (hq : tg q = t) (hz : zt s = true ∧ zt t = true ∧ rAm t = (-2147483648, 2147483647)) (e1 : ∀ j, j < 12720 → r1 q j = ri p j) (e2 : ∀ c, c ≠ q → r1 c = ri c) (hX : ((∀ z ∈ ztl, 1000 + z ∈ X) ∨ t ≠ 384) ∧ ∀ p ∈ frl, p.1 = t → p.2 ∈ X) : GM X tg σ I0 r0 I r1 rq := by
  refine ⟨⟨h.1.1, fun b j => ?_, fun b hb => ?_, h.1.2.2.2⟩, h.2.1, fun b hb j hj hx2 => ?_, fun t2 c hc hx2 b hb => ?_⟩
  · by_cases hbq : b = q
    · subst hbq
      rw [hq, hz.2.2]
      exact rg_full _
    · rw [e2 b hbq]
      exact h.1.2.1 b j
  · by_cases hbq : b = q
    · subst hbq
      have hG := h.1.2.2.1 p (by rw [hp]; exact hz.1)
      have big : ∀ i, ¬ i < 12720 → zn i = 999 := fun i hi => by
        unfold zn
        repeat (first | rw [if_neg (by omega)] | rw [if_pos (by omega)])
      refine ⟨⟨fun i => ?_, fun i hi => ?_⟩, GA_sp hG (fun j hj => ?_)⟩
      · by_cases hi : i < 12720
        · rw [e1 i hi]
          exact hG.1.1 i
        · rw [big i hi]
          exact rg_full _
      · by_cases hi2 : i < 12720
        · rw [e1 i hi2]
          exact hG.1.2 i hi
        · rw [big i hi2] at hi
          cases hi
      · by_cases hi3 : j < 12720
        · exact e1 j hi3
        · rw [big j hi3] at hj
          unfold zsp at hj
          omega
    · rw [e2 b hbq]
      exact h.1.2.2.1 b hb
  · by_cases hbq : b = q
    · subst hbq
      rcases hX.1 with z | z
      · exact absurd (z _ hj) hx2
      · exact absurd (hq.symm.trans hb) z
    · rw [e2 b hbq]
      exact h.2.2.1 b hb j hj hx2
  · have hbq : b ≠ q := fun z => by
      rw [z, hq] at hb
      exact hx2 (hX.2 (t2, c) hc hb.symm)
    rw [e2 b hbq]
    exact h.2.2.2 t2 c hc hx2 b hb
end GMS
theorem cz_eq {r r1 : Nat → Nat → Int32} {q j : Nat} {v x : Int32} (e1 : r1 = va_up r q (upd (r q) v.toNatClampNeg x)) (hj : v.toNatClampNeg = j := by rfl) : r1 q j = x := by
  subst e1
  rw [va_up_self]
  unfold upd
  rw [if_pos hj.symm]
theorem cz_ne {r r1 : Nat → Nat → Int32} {q j k : Nat} {v x z : Int32} (e1 : r1 = va_up r q (upd (r q) v.toNatClampNeg x)) (ez : zn v.toNatClampNeg = k) (hj : j < 20) (hk : k ≠ j) (h : r q j = z) : r1 q j = z := by
  subst e1
  rw [va_up_self]
  unfold upd
  rw [if_neg (fun e => ?_)]
  · exact h
  · rw [← e] at ez
    have ej : zn j = j := by unfold zn; rw [if_pos hj]
    exact hk (ez.symm.trans ej)
section PQZ
variable {p : Program} {l : Launch} {e : Env} {R : Room} {s : State} {m : MethodId} {args : Array Value} {below : List Frame} {meth : Method} {c : Code} {H : Heap} {locs : List Loc} {cells slots : Nat} {Q : State → Prop}
variable {cc : ByteArray} {pc : Nat} {ls : Array Slot} {rest : List Value} {D : va_G} {A : Nat → Prop} {a : Nat} {t : pq_T} {σ : pq_S} {H0 : Heap}
variable {I : Nat → Nat → Int32} {J : Nat → Nat → Int64} {ri : Nat → Nat → Int32} {rj : Nat → Nat → Int64} {rq : Nat → Nat → Option Nat}
theorem pl_z (hx : p.tables.exec = Jvm.exec) (hb : c.code = cc) {μ : pq_M} (hK : va_K D vwCl (pq_ty t) s) (hP : va_P D vwCl (pq_P t σ μ) H) (hL : a ∈ σ.1) (hk : σ.2.1 a = 15) {n : Nat} (hn : σ.2.2.2 a = n) {i : Int32} (hin : vp_in i n) (hdg : decode cc pc = .ok (.baload, 1))
    (kk : W p l e R s m args below meth c H locs cells slots Q (F0 m (pc + 1) ls (.int (μ.2.2.1 a i.toNatClampNeg) :: rest))) : W p l e R s m args below meth c H locs cells slots Q (F0 m pc ls (.int i :: .ref a :: rest)) := by
  subst hn
  obtain ⟨q, hq⟩ := pq_in (t := t) (μ := μ) hL
  rw [pq_oZ hk] at hq
  exact va_zald hx hb hK hP q 2 hq rfl hin hdg kk
theorem nar01 {x : Int32} (h : rg x 0 1) : vp_nar .boolean x = x := by rcases bool01 h with e | e <;> subst e <;> rfl
theorem pt_z (hx : p.tables.exec = Jvm.exec) (hb : c.code = cc) (hK : va_K D vwCl (pq_ty t) s) (hP : va_P D vwCl (pq_P t σ (I, J, ri, rj, rq)) H) (hD : va_D A (pq_P t σ (I, J, ri, rj, rq))) (hS : va_S A H0 H locs) (hL : a ∈ σ.1) (hk : σ.2.1 a = 15) {n : Nat} (hn : σ.2.2.2 a = n) {i x : Int32} (hin : vp_in i n) (hz : rg x 0 1) (hdg : decode cc pc = .ok (.bastore, 1))
    (kk : ∀ (r1 : Nat → Nat → Int32) (H1 : Heap) (locs1 : List Loc), r1 = va_up ri a (upd (ri a) i.toNatClampNeg x) → va_P D vwCl (pq_P t σ (I, J, r1, rj, rq)) H1 → va_D A (pq_P t σ (I, J, r1, rj, rq)) → va_S A H0 H1 locs1 → W p l e R s m args below meth c H1 locs1 cells slots Q (F0 m (pc + 1) ls rest)) : W p l e R s m args below meth c H locs cells slots Q (F0 m pc ls (.int x :: .int i :: .ref a :: rest)) := by
  subst hn
  obtain ⟨q, hq⟩ := pq_in (t := t) (μ := (I, J, ri, rj, rq)) hL
  have hq2 := hq
  rw [pq_oZ hk] at hq2
  have he : (pq_P t σ (I, J, ri, rj, rq)).set q (a, .inl (t.2.2.1, σ.2.2.2 a, .inl (upd (ri a) i.toNatClampNeg (vp_nar .boolean x)))) = pq_P t σ (I, J, va_up ri a (upd (ri a) i.toNatClampNeg x), rj, rq) := pq_set hD hL hq (by rw [pq_oZ hk]; simp only [va_up_self, nar01 hz]) (fun b hb => pq_Ea hb)
  refine va_zast hx hb hK hP hD hS q 2 hq2 rfl hin hdg (fun H1 locs1 hP1 hD1 hS1 => ?_)
  exact kk _ H1 locs1 rfl (he ▸ hP1) (he ▸ hD1) hS1
theorem fr_w {tg : Nat → Nat} {T a : Nat} {r0 r r1 : Nat → Nat → Int32} {g : Nat → Int32} (h : ∀ q, tg q ≠ T → r q = r0 q) (e : r1 = va_up r a g) (ht : tg a = T) : ∀ q, tg q ≠ T → r1 q = r0 q := by
  intro q hq
  rw [e, va_up_ne _ _ (fun z => hq (by rw [z, ht]))]
  exact h q hq
theorem fr_t {tg : Nat → Nat} {T : Nat} {r0 r r1 : Nat → Nat → Int32} (h : ∀ q, tg q ≠ T → r q = r0 q) (h1 : ∀ q, tg q ≠ T → r1 q = r q) : ∀ q, tg q ≠ T → r1 q = r0 q := fun q hq => (h1 q hq).trans (h q hq)
/-- the orders of rings -/
def InjI (n : Int) (f : Nat → Int32) : Prop := ∀ i j : Nat, (i : Int) < n → (j : Int) < n → f i = f j → i = j
theorem sw_eq {r0 r1 r2 : Nat → Nat → Int32} {w : Nat} {i1 i2 x1 x2 : Int32} (e1 : r1 = va_up r0 w (upd (r0 w) i1.toNatClampNeg x1)) (e2 : r2 = va_up r1 w (upd (r1 w) i2.toNatClampNeg x2)) (h1 : x1 = r0 w i2.toNatClampNeg) (h2 : x2 = r0 w i1.toNatClampNeg) (i : Nat) : r2 w i = if i = i2.toNatClampNeg then r0 w i1.toNatClampNeg else if i = i1.toNatClampNeg then r0 w i2.toNatClampNeg else r0 w i := by
  subst e1 e2 h1 h2
  rw [va_up_self, va_up_self]
  unfold upd
  rfl
theorem sw_inj {r0 r1 r2 : Nat → Nat → Int32} {w : Nat} {i1 i2 x1 x2 : Int32} {n : Int} (hi : InjI n (r0 w)) (e1 : r1 = va_up r0 w (upd (r0 w) i1.toNatClampNeg x1)) (e2 : r2 = va_up r1 w (upd (r1 w) i2.toNatClampNeg x2)) (h1 : x1 = r0 w i2.toNatClampNeg) (h2 : x2 = r0 w i1.toNatClampNeg) (b1 : (i1.toNatClampNeg : Int) < n) (b2 : (i2.toNatClampNeg : Int) < n) : InjI n (r2 w) := by
  intro i j hi2 hj h
  rw [sw_eq e1 e2 h1 h2, sw_eq e1 e2 h1 h2] at h
  repeat' split at h
  all_goals (first | omega | (have q := hi _ _ (by omega) (by omega) h; omega))
def lexM (f : Nat → Int32) : Int := 625 * (f 0).toInt + 125 * (f 1).toInt + 25 * (f 2).toInt + 5 * (f 3).toInt + (f 4).toInt
theorem lex_up {f g : Nat → Int32} (hf : ∀ i, rg (f i) 0 4) (hg : ∀ i, rg (g i) 0 4) (h : ∃ k : Nat, k < 4 ∧ (∀ i, i < k → g i = f i) ∧ (f k).toInt < (g k).toInt) : lexM f < lexM g := by
  obtain ⟨k, hk, hp, hlt⟩ := h
  obtain ⟨f0, F0'⟩ := hf 0
  obtain ⟨f1, F1⟩ := hf 1
  obtain ⟨f2, F2⟩ := hf 2
  obtain ⟨f3, F3⟩ := hf 3
  obtain ⟨f4, F4⟩ := hf 4
  obtain ⟨g0, G0⟩ := hg 0
  obtain ⟨g1, G1⟩ := hg 1
  obtain ⟨g2, G2'⟩ := hg 2
  obtain ⟨g3, G3⟩ := hg 3
  obtain ⟨g4, G4⟩ := hg 4
  unfold lexM
  have hc : k = 0 ∨ k = 1 ∨ k = 2 ∨ k = 3 := by omega
  rcases hc with e | e | e | e <;> subst e
  · omega
  · have p0 := congrArg Int32.toInt (hp 0 (by decide +kernel)); omega
  · have p0 := congrArg Int32.toInt (hp 0 (by decide +kernel)); have p1 := congrArg Int32.toInt (hp 1 (by decide +kernel)); omega
  · have p0 := congrArg Int32.toInt (hp 0 (by decide +kernel)); have p1 := congrArg Int32.toInt (hp 1 (by decide +kernel)); have p2 := congrArg Int32.toInt (hp 2 (by decide +kernel)); omega
theorem lex_b {f : Nat → Int32} (hf : ∀ i, rg (f i) 0 4) : 0 ≤ lexM f ∧ lexM f ≤ 3124 := by
  obtain ⟨f0, F0'⟩ := hf 0
  obtain ⟨f1, F1⟩ := hf 1
  obtain ⟨f2, F2⟩ := hf 2
  obtain ⟨f3, F3⟩ := hf 3
  obtain ⟨f4, F4⟩ := hf 4
  unfold lexM
  omega
theorem inj_id {f : Nat → Int32} {n : Int} (h : ∀ j : Nat, (j : Int) < 5 → (f j).toInt = j) (hn : n ≤ 5) : InjI n f := by
  intro i j hi hj e
  have h1 := h i (by omega)
  have h2 := h j (by omega)
  have h3 := congrArg Int32.toInt e
  omega
theorem id_w {r r1 : Nat → Nat → Int32} {w : Nat} {i : Int32} (h : ∀ j : Nat, (j : Int) < i.toInt → (r w j).toInt = j) (e : r1 = va_up r w (upd (r w) i.toNatClampNeg i)) (h0 : 0 ≤ i.toInt) {m : Int} (hm : m = i.toInt + 1) : ∀ j : Nat, (j : Int) < m → (r1 w j).toInt = j := by
  intro j hj
  have ce := clampE i
  rw [e, va_up_self]
  unfold upd
  split
  · omega
  · exact h j (by omega)
theorem ro_ne {r r1 : Nat → Nat → Int32} {a q : Nat} {g : Nat → Int32} (e : r1 = va_up r q g) (h : a ≠ q) : r1 a = r a := by rw [e, va_up_ne _ _ h]
/-- the persons in the row are on rings -/
def rwP (a w : Nat) (r : Nat → Nat → Int32) (n : Int) : Prop := ∀ j : Nat, (j : Int) < n → rg (r a (743 + 12 * (r w j).toNatClampNeg)) 0 4
theorem rwP_f {a w : Nat} {r r1 : Nat → Nat → Int32} {n : Int} (h : rwP a w r n) (ha : r1 a = r a) (hw : r1 w = r w) : rwP a w r1 n := by
  intro j hj
  rw [ha, hw]
  exact h j hj
theorem rwV_f {a k : Nat} {r r1 : Nat → Nat → Int32} (h : rg (r a k) 0 4) (ha : r1 a = r a) : rg (r1 a k) 0 4 := by
  rw [ha]
  exact h
theorem rwP_o {a w q : Nat} {r r1 : Nat → Nat → Int32} {n : Int} {g : Nat → Int32} (h : rwP a w r n) (e : r1 = va_up r q g) (ha : a ≠ q) (hw : w ≠ q) : rwP a w r1 n := by
  intro j hj
  rw [e, va_up_ne _ _ ha, va_up_ne _ _ hw]
  exact h j hj
theorem rwV_o {a q : Nat} {r r1 : Nat → Nat → Int32} {g : Nat → Int32} {k : Nat} (h : rg (r a k) 0 4) (e : r1 = va_up r q g) (ha : a ≠ q) : rg (r1 a k) 0 4 := by
  rw [e, va_up_ne _ _ ha]
  exact h
theorem rwP_w {a w : Nat} {r r1 : Nat → Nat → Int32} {n : Int} {i x : Int32} (h : rwP a w r n) (e : r1 = va_up r w (upd (r w) i.toNatClampNeg x)) (ha : a ≠ w) (hx : rg (r a (743 + 12 * x.toNatClampNeg)) 0 4) : rwP a w r1 n := by
  intro j hj
  rw [e, va_up_ne _ _ ha, va_up_self]
  unfold upd
  split
  · exact hx
  · exact h j hj
theorem rwP_at {a w : Nat} {r r1 : Nat → Nat → Int32} {k : Nat} {i x : Int32} (h : i.toNatClampNeg = k ∨ rg (r a (743 + 12 * (r w k).toNatClampNeg)) 0 4) (e : r1 = va_up r w (upd (r w) i.toNatClampNeg x)) (ha : a ≠ w) (hx : rg (r a (743 + 12 * x.toNatClampNeg)) 0 4) : rg (r1 a (743 + 12 * (r1 w k).toNatClampNeg)) 0 4 := by
  rw [e, va_up_ne _ _ ha, va_up_self]
  unfold upd
  split
  · exact hx
  · next q => exact h.elim (fun z => absurd z.symm q) id
theorem rwP_s {a w : Nat} {r : Nat → Nat → Int32} {n m : Int} (h : rwP a w r n) (h0 : 0 ≤ n) (h1 : rg (r a (743 + 12 * (r w n.toNat).toNatClampNeg)) 0 4) (e : m = n + 1) : rwP a w r m := by
  intro j hj
  by_cases q : (j : Int) < n
  · exact h j q
  · have e2 : j = n.toNat := by omega
    rw [e2]
    exact h1
end PQZ
/-! ===== the reference: a force is laid ===== -/
theorem TX_sp {f g : Nat → Int32} (h : GA f) (hg : ∀ j, (zn j = 6 ∨ (900 ≤ zn j ∧ zn j < 999)) → g j = f j) : TXT g := by
  have h6 : g 6 = f 6 := hg 6 (Or.inl zn_6)
  have r6 := GA_r h zn_6 (lo := 0) (hi := 10) rfl
  obtain ⟨r6a, r6b⟩ := r6
  intro t ht c hc h1 h2
  rw [h6] at ht
  have ht10 : t < 10 := by omega
  have e0 : zn (3720 + 900 * t) = 900 := zn_t0 rfl ht10
  have g0 : g (3720 + 900 * t) = f (3720 + 900 * t) := hg _ (by rw [e0]; exact Or.inr (by decide +kernel))
  rw [g0] at hc
  have r0 := GA_r h e0 (lo := 0) (hi := 20) rfl
  obtain ⟨r0a, r0b⟩ := r0
  have hc20 : c < 20 := by omega
  have gk : ∀ k, k < 12 → g (3721 + 900 * t + 12 * c + k) = f (3721 + 900 * t + 12 * c + k) := fun k hk => hg _ (by rw [zn_tc rfl ht10 hc20 hk]; exact Or.inr ⟨by omega, by omega⟩)
  have gk0 : g (3721 + 900 * t + 12 * c) = f (3721 + 900 * t + 12 * c) := gk 0 (by decide +kernel)
  rw [gk0] at h1 h2
  obtain ⟨w1, w2, w3, w4⟩ := h.2.1 t ht c hc h1 h2
  rw [gk 2 (by decide +kernel), gk 3 (by decide +kernel)]
  refine ⟨w1, w2, w3, ?_⟩
  rw [rnn_cg _ (fun j hj => ?_)]
  · exact w4
  · refine hg _ ?_
    have z1 := clampE (f (3721 + 900 * t + 12 * c + 2))
    have z2 := clampE (f (3721 + 900 * t + 12 * c + 3))
    have ez : zn (3970 + 900 * t + 2 * (f (3721 + 900 * t + 12 * c + 2)).toNatClampNeg + 2 * j) = 930 + 0 := zn_tk (c := (f (3721 + 900 * t + 12 * c + 2)).toNatClampNeg + j) (by omega) ht10 (by omega) (by decide +kernel)
    rw [ez]
    exact Or.inr (by decide +kernel)
theorem GA_f0 {f : Nat → Int32} (h : GA f) {n : Nat} {x : Int32} {lo hi : Int} (hn : (f 7).toInt ≤ (n : Int)) (hn30 : n < 30) (e2 : rzt 600 = (lo, hi)) (hx : rg x lo hi) : GA (upd f (2220 + 4 * n) x) := by
  have e : zn (2220 + 4 * n) = 600 := zn_FORCE (k := 0) rfl hn30 (by decide +kernel)
  refine ⟨⟨fun j => ?_, fun j hj => ?_⟩, TX_sp h (fun j hj => GA_ne e (fun q => by omega)), fun q hq => ?_⟩
  · unfold upd
    split
    · next q => rw [q, e, e2]; exact hx
    · exact h.1.1 j
  · unfold upd
    split
    · next q => rw [q, e] at hj; exact absurd hj (by decide +kernel)
    · exact h.1.2 j hj
  · have e7 : upd f (2220 + 4 * n) x 7 = f 7 := by unfold upd; rw [if_neg (by omega)]
    have e6 : upd f (2220 + 4 * n) x 6 = f 6 := by unfold upd; rw [if_neg (by omega)]
    rw [e7] at hq
    have eq : upd f (2220 + 4 * n) x (2220 + 4 * q) = f (2220 + 4 * q) := by unfold upd; rw [if_neg (by omega)]
    rw [eq, e6]
    exact h.2.2 q hq
theorem GA_f7 {f : Nat → Int32} (h : GA f) {n : Nat} {x : Int32} (hn : (f 7).toInt = (n : Int)) (ex : x.toInt = (n : Int) + 1) (hx : rg x 0 30) (hf : (f (2220 + 4 * n)).toInt < (f 6).toInt) : GA (upd f 7 x) := by
  refine ⟨⟨fun j => ?_, fun j hj => ?_⟩, TX_sp h (fun j hj => GA_ne zn_7 (fun q => by omega)), fun q hq => ?_⟩
  · unfold upd
    split
    · next q => rw [q, zn_7]; exact hx
    · exact h.1.1 j
  · unfold upd
    split
    · next q => rw [q, zn_7] at hj; exact absurd hj (by decide +kernel)
    · exact h.1.2 j hj
  · have e7 : upd f 7 x 7 = x := by unfold upd; rw [if_pos rfl]
    have e6 : upd f 7 x 6 = f 6 := by unfold upd; rw [if_neg (by omega)]
    have eq : upd f 7 x (2220 + 4 * q) = f (2220 + 4 * q) := by unfold upd; rw [if_neg (by omega)]
    rw [e7] at hq
    rw [eq, e6]
    by_cases hh : q = n
    · rw [hh]; exact hf
    · exact h.2.2 q (by omega)
theorem GM.wf0 {X : List Nat} {tg : Nat → Nat} {σ : pq_S} {I0 r0 I ri r1 : Nat → Nat → Int32} {rq : Nat → Nat → Option Nat} (h : GM X tg σ I0 r0 I ri rq) {q t : Nat} {v x : Int32} {lo hi : Int} (ht : tg q = t) (hz : zt t = true ∧ rAm t = (-2147483648, 2147483647)) (e1 : r1 = va_up ri q (upd (ri q) v.toNatClampNeg x)) {n : Nat} (hv : v.toNatClampNeg = 2220 + 4 * n) (hn30 : n < 30) (hn : (ri q 7).toInt ≤ (n : Int)) (e2 : rzt 600 = (lo, hi)) (hx : rg x lo hi) (hX : ∀ p ∈ frl, p.1 = t → p.2 ∈ X) : GM X tg σ I0 r0 I r1 rq := GM.wz0 h ht hz.1 hz.2 e1 (k := 600) (by rw [hv]; exact zn_FORCE (k := 0) rfl hn30 (by decide +kernel)) e2 hx ⟨Or.inl (by decide +kernel), hX⟩ (fun hG => by rw [hv]; exact GA_f0 hG hn hn30 e2 hx) (fun q => absurd q (by decide +kernel))
theorem GM.wf7 {X : List Nat} {tg : Nat → Nat} {σ : pq_S} {I0 r0 I ri r1 : Nat → Nat → Int32} {rq : Nat → Nat → Option Nat} (h : GM X tg σ I0 r0 I ri rq) {q t : Nat} {v x : Int32} (ht : tg q = t) (hz : zt t = true ∧ rAm t = (-2147483648, 2147483647)) (e1 : r1 = va_up ri q (upd (ri q) v.toNatClampNeg x)) (hv : v.toNatClampNeg = 7) {n : Nat} (hn : (ri q 7).toInt = (n : Int)) (ex : x.toInt = (n : Int) + 1) (hx : rg x 0 30) (hf : (ri q (2220 + 4 * n)).toInt < (ri q 6).toInt) (hX : 1007 ∈ X ∧ ∀ p ∈ frl, p.1 = t → p.2 ∈ X) : GM X tg σ I0 r0 I r1 rq := GM.wz0 h ht hz.1 hz.2 e1 (k := 7) (by rw [hv]; exact zn_7) (lo := 0) (hi := 30) rfl hx ⟨Or.inr hX.1, hX.2⟩ (fun hG => by rw [hv]; exact GA_f7 hG hn ex hx hf) (fun q => absurd q (by decide +kernel))
theorem fc_eq {r r1 : Nat → Nat → Int32} {q n : Nat} {v x : Int32} (e1 : r1 = va_up r q (upd (r q) v.toNatClampNeg x)) (hv : v.toNatClampNeg = 2220 + 4 * n) : r1 q (2220 + 4 * n) = x := by
  rw [e1, va_up_self, hv]; unfold upd; rw [if_pos rfl]
theorem fc_ne {r r1 : Nat → Nat → Int32} {q n : Nat} {v x z : Int32} (e1 : r1 = va_up r q (upd (r q) v.toNatClampNeg x)) (hv : v.toNatClampNeg ≠ 2220 + 4 * n) (h : r q (2220 + 4 * n) = z) : r1 q (2220 + 4 * n) = z := by
  rw [e1, va_up_self]; unfold upd; rw [if_neg (fun e => hv e.symm)]; exact h
/-! ===== the reference's parser: pure facts ===== -/
def isO (x : Int32) : Prop := x.toInt = 2 ∨ x.toInt = 40
/-- how many of the first n in the pile are open -/
noncomputable def cO (f : Nat → Int32) : Nat → Int
  | 0 => 0
  | n + 1 => cO f n + (if (f n).toInt = 2 ∨ (f n).toInt = 40 then 1 else 0)
def lvl (x : Int32) : Int := if x.toInt ≤ 4 then 1 else 2
/-- of two operators side by side the upper one holds closer -/
def LPs (f : Nat → Int32) (n : Nat) : Prop := ∀ j, j < n → (2 ≤ (f j).toInt ∧ (f j).toInt ≤ 6 ∨ (f j).toInt = 40) ∧ (¬ isO (f j) → 1 ≤ j → ¬ isO (f (j - 1)) → lvl (f (j - 1)) < lvl (f j))
theorem lvl_b (x : Int32) : 1 ≤ lvl x ∧ lvl x ≤ 2 := by
  unfold lvl
  split <;> exact ⟨by decide +kernel, by decide +kernel⟩
theorem cO_cg {f g : Nat → Int32} : ∀ n : Nat, (∀ j, j < n → g j = f j) → cO g n = cO f n := by
  intro n
  induction n with
  | zero => intro _; rfl
  | succ n ih =>
    intro h
    show cO g n + _ = cO f n + _
    rw [ih (fun j hj => h j (Nat.lt_succ_of_lt hj)), h n (Nat.lt_succ_self _)]
theorem cO_b (f : Nat → Int32) : ∀ n : Nat, 0 ≤ cO f n ∧ cO f n ≤ n := by
  intro n
  induction n with
  | zero => exact ⟨Int.le_refl _, Int.le_refl _⟩
  | succ n ih =>
    show 0 ≤ cO f n + _ ∧ cO f n + _ ≤ _
    split <;> omega
theorem cO_o {f : Nat → Int32} {n : Nat} (h : isO (f n)) : cO f (n + 1) = cO f n + 1 := by
  show cO f n + _ = _
  rw [if_pos (show (f n).toInt = 2 ∨ (f n).toInt = 40 from h)]
theorem cO_n {f : Nat → Int32} {n : Nat} (h : ¬ isO (f n)) : cO f (n + 1) = cO f n := by
  show cO f n + _ = _
  rw [if_neg (show ¬((f n).toInt = 2 ∨ (f n).toInt = 40) from h), Int.add_zero]
theorem LP_cg {f g : Nat → Int32} {n : Nat} (h : LPs f n) (e : ∀ j, j < n → g j = f j) : LPs g n := by
  intro j hj
  rw [e j hj]
  refine ⟨(h j hj).1, fun h1 h2 => ?_⟩
  rw [e (j - 1) (by omega)]
  exact (h j hj).2 h1 h2
theorem LP_le {f : Nat → Int32} {n k : Nat} (h : LPs f n) (hk : k ≤ n) : LPs f k := fun j hj => h j (by omega)
theorem LP_bd {f : Nat → Int32} : ∀ n : Nat, LPs f n → ((n : Int) ≤ 3 * cO f n + 2) ∧ (n = 0 ∨ isO (f (n - 1)) → (n : Int) ≤ 3 * cO f n) ∧ (1 ≤ n → ¬ isO (f (n - 1)) → (n : Int) ≤ 3 * cO f n + lvl (f (n - 1))) := by
  intro n
  induction n with
  | zero => intro _; exact ⟨by show (0 : Int) ≤ 3 * 0 + 2; decide, fun _ => by show (0 : Int) ≤ 3 * 0; decide, fun h => absurd h (by decide +kernel)⟩
  | succ n ih =>
    intro h
    obtain ⟨i1, i2, i3⟩ := ih (LP_le h (by omega))
    have l2 := lvl_b (f n)
    by_cases ho : isO (f n)
    · rw [cO_o ho]
      exact ⟨by omega, fun _ => by omega, fun _ hn => absurd ho hn⟩
    · rw [cO_n ho]
      have hb : ((n + 1 : Nat) : Int) ≤ 3 * cO f n + lvl (f n) := by
        by_cases hz : n = 0 ∨ isO (f (n - 1))
        · have := i2 hz
          omega
        · have h1 : 1 ≤ n := by omega
          have h2 : ¬ isO (f (n - 1)) := fun q => hz (Or.inr q)
          have h3 := i3 h1 h2
          have h4 := (h n (by omega)).2 ho h1 h2
          omega
      exact ⟨by omega, fun q => q.elim (fun q => absurd q (by omega)) (fun q => absurd q ho), fun _ _ => hb⟩
/-- one more in the pile -/
theorem LP_push {f g : Nat → Int32} {n : Nat} {x : Int32} (h : LPs f n) (e : g = upd f n x) (hx : 2 ≤ x.toInt ∧ x.toInt ≤ 6 ∨ x.toInt = 40) (hl : ¬ isO x → 1 ≤ n → ¬ isO (f (n - 1)) → lvl (f (n - 1)) < lvl x) : LPs g (n + 1) := by
  have eg : ∀ j, j < n → g j = f j := fun j hj => by rw [e]; unfold upd; rw [if_neg (by omega)]
  have en : g n = x := by rw [e]; unfold upd; rw [if_pos rfl]
  intro j hj
  by_cases hn : j < n
  · exact (LP_cg h eg) j hn
  · have : j = n := by omega
    subst this
    rw [en]
    refine ⟨hx, fun h1 h2 => ?_⟩
    rw [eg (j - 1) (by omega)]
    exact hl h1 h2
theorem cO_push {f g : Nat → Int32} {n : Nat} {x : Int32} (e : g = upd f n x) : cO g (n + 1) = cO f n + (if x.toInt = 2 ∨ x.toInt = 40 then 1 else 0) := by
  have eg : ∀ j, j < n → g j = f j := fun j hj => by rw [e]; unfold upd; rw [if_neg (by omega)]
  have en : g n = x := by rw [e]; unfold upd; rw [if_pos rfl]
  show cO g n + _ = _
  rw [cO_cg n eg, en]
/-- what a text under way may write: nothing that a text read before looks at -/
theorem GA_lt {f g : Nat → Int32} (h : GA f) (hg : ∀ j : Nat, (j : Int) < 3720 + 900 * (f 6).toInt → g j = f j) : TXT g ∧ FRC g := by
  have r6 := GA_r h zn_6 (lo := 0) (hi := 10) rfl
  have r7 := GA_r h zn_7 (lo := 0) (hi := 30) rfl
  obtain ⟨r6a, r6b⟩ := r6
  obtain ⟨r7a, r7b⟩ := r7
  have h6 : g 6 = f 6 := hg 6 (by omega)
  have h7 : g 7 = f 7 := hg 7 (by omega)
  refine ⟨fun t ht c hc h1 h2 => ?_, fun q hq => ?_⟩
  · rw [h6] at ht
    have ht10 : t < 10 := by omega
    have e0 : zn (3720 + 900 * t) = 900 := zn_t0 rfl ht10
    have g0 : g (3720 + 900 * t) = f (3720 + 900 * t) := hg _ (by omega)
    rw [g0] at hc
    have r0 := GA_r h e0 (lo := 0) (hi := 20) rfl
    obtain ⟨r0a, r0b⟩ := r0
    have hc20 : c < 20 := by omega
    have gk : ∀ k, k < 12 → g (3721 + 900 * t + 12 * c + k) = f (3721 + 900 * t + 12 * c + k) := fun k hk => hg _ (by omega)
    have gk0 : g (3721 + 900 * t + 12 * c) = f (3721 + 900 * t + 12 * c) := gk 0 (by decide +kernel)
    rw [gk0] at h1 h2
    obtain ⟨w1, w2, w3, w4⟩ := h.2.1 t ht c hc h1 h2
    rw [gk 2 (by decide +kernel), gk 3 (by decide +kernel)]
    refine ⟨w1, w2, w3, ?_⟩
    rw [rnn_cg _ (fun j hj => ?_)]
    · exact w4
    · have z1 := clampE (f (3721 + 900 * t + 12 * c + 2))
      have z2 := clampE (f (3721 + 900 * t + 12 * c + 3))
      exact hg _ (by omega)
  · rw [h7] at hq
    rw [hg _ (by omega), h6]
    exact h.2.2 q hq
theorem GA_wt {f : Nat → Int32} (h : GA f) {i k : Nat} {x : Int32} {lo hi : Int} (e : zn i = k) (e2 : rzt k = (lo, hi)) (hx : rg x lo hi) (hi2 : 3720 + 900 * (f 6).toInt ≤ (i : Int)) (hk : k ≠ 403) : GA (upd f i x) := by
  refine ⟨⟨fun j => ?_, fun j hj => ?_⟩, GA_lt h (fun j hj => ?_)⟩
  · unfold upd
    split
    · next q => rw [q, e, e2]; exact hx
    · exact h.1.1 j
  · unfold upd
    split
    · next q => rw [q, e] at hj; exact absurd hj hk
    · exact h.1.2 j hj
  · unfold upd
    rw [if_neg (by omega)]
theorem GM.wt {X : List Nat} {tg : Nat → Nat} {σ : pq_S} {I0 r0 I ri r1 : Nat → Nat → Int32} {rq : Nat → Nat → Option Nat} (h : GM X tg σ I0 r0 I ri rq) {q t k : Nat} {v x : Int32} {lo hi : Int} (ht : tg q = t) (hz : zt t = true ∧ rAm t = (-2147483648, 2147483647)) (e1 : r1 = va_up ri q (upd (ri q) v.toNatClampNeg x)) (e : zn v.toNatClampNeg = k) (e2 : rzt k = (lo, hi)) (hx : rg x lo hi) (hv : 3720 + 900 * (ri q 6).toInt ≤ (v.toNatClampNeg : Int)) (hX : ((k ∉ ztl ∨ 1000 + k ∈ X) ∧ ∀ p ∈ frl, p.1 = t → p.2 ∈ X) ∧ k ≠ 403) : GM X tg σ I0 r0 I r1 rq := GM.wz0 h ht hz.1 hz.2 e1 e e2 hx hX.1 (fun hG => GA_wt hG e e2 hx hv hX.2) (fun q => absurd q hX.2)
theorem em_all {f g : Nat → Int32} {b : Nat} {fr i : Int} {o : Int32} (h : fr ≤ i) (hg : ∀ j : Nat, (j : Int) < i - fr → g (b + 2 * j) = f (b + 2 * j)) (e : g (b + 2 * (i - fr).toNat) = o) (hok : oN f b fr i) (hr : (o.toInt = 2 → 1 ≤ vN f b fr i) ∧ (2 < o.toInt ∧ o.toInt < 20 → 2 ≤ vN f b fr i) ∧ (o.toInt = 20 → 1 ≤ tN f b fr i) ∧ (20 < o.toInt → 2 ≤ tN f b fr i)) : oN g b fr (i + 1) ∧ (o.toInt ≤ 1 → vN g b fr (i + 1) = vN f b fr i + 1 ∧ tN g b fr (i + 1) = tN f b fr i) ∧ (o.toInt = 2 → vN g b fr (i + 1) = vN f b fr i ∧ tN g b fr (i + 1) = tN f b fr i) ∧ (2 < o.toInt ∧ o.toInt < 10 → vN g b fr (i + 1) = vN f b fr i - 1 ∧ tN g b fr (i + 1) = tN f b fr i) ∧ (10 ≤ o.toInt ∧ o.toInt < 20 → vN g b fr (i + 1) = vN f b fr i - 2 ∧ tN g b fr (i + 1) = tN f b fr i + 1) ∧ (o.toInt = 20 → vN g b fr (i + 1) = vN f b fr i ∧ tN g b fr (i + 1) = tN f b fr i) ∧ (20 < o.toInt → vN g b fr (i + 1) = vN f b fr i ∧ tN g b fr (i + 1) = tN f b fr i - 1) := by
  unfold oN vN tN at *
  rw [rnn_s h, e, rnn_cg _ (fun j hj => hg j (by omega))]
  generalize rnn f b (i - fr).toNat = s at *
  unfold stp
  obtain ⟨r1, r2, r3, r4⟩ := hr
  repeat' split
  all_goals (simp only [Bool.and_eq_true, decide_eq_true_eq]; refine ⟨?_, ?_, ?_, ?_, ?_, ?_, ?_⟩ <;> (first | (intro q; exfalso; omega) | (intro _; exact ⟨rfl, rfl⟩) | (intro _; exact ⟨trivial, trivial⟩) | exact hok | exact ⟨hok, by omega⟩))
/-! ===== the reference's parser: its state, step by step ===== -/
/-- what holds between two tokens: t the text's place, w how many words are written, o what is open, s the place of the scanner, k the token -/
def PBz (t w o s k : Int) (f : Nat → Int32) (bb : Nat) (f0 : Nat → Int32) (fr va tb nn K : Int) : Prop := (t = 3720 + 900 * (f 6).toInt ∧ 0 ≤ (f 6).toInt ∧ (f 6).toInt ≤ 9) ∧ ((bb : Int) = 3970 + 900 * (f 6).toInt + 2 * fr ∧ 0 ≤ fr ∧ fr ≤ w) ∧ (∀ j : Nat, j < bb → f j = f0 j) ∧ oN f bb fr w ∧ vN f bb fr w = va ∧ tN f bb fr w = tb ∧ (o = nn ∧ 0 ≤ nn ∧ nn ≤ 8 ∧ 0 ≤ K) ∧ (w + K ≤ s ∧ (k ≠ 0 → w + K + 1 ≤ s) ∧ s ≤ 300)
/-- the same in a sum: p how many are in the pile g -/
def PSz (t w p o s k : Int) (f g : Nat → Int32) (bb : Nat) (f0 : Nat → Int32) (fr ba tb nn K iw : Int) : Prop := PBz t w o s k f bb f0 fr (ba + (p - cO g p.toNat) + iw) tb (nn + cO g p.toNat) (K + p) ∧ LPs g p.toNat ∧ 0 ≤ p ∧ 0 ≤ nn ∧ 0 ≤ K ∧ 0 ≤ ba
def tmM (s k : Int) : Int := 2 * (300 - s) + (if k = 0 then 0 else 1)
theorem tm_lt {s k s1 k1 : Int} (hk : k ≠ 0) (h : s ≤ s1) (h2 : k1 = 0 ∨ s + 1 ≤ s1) : tmM s1 k1 < tmM s k := by
  unfold tmM
  rw [if_neg hk]
  split <;> omega
theorem tm_b {s k : Int} (h : s ≤ 300) : 0 ≤ tmM s k := by
  unfold tmM
  split <;> omega
section PZ
variable {t w p o s k t1 w1 p1 o1 s1 k1 : Int} {f g f1 g1 f0 : Nat → Int32} {bb : Nat} {fr va ba tb nn K iw va1 tb1 : Int} {x : Int32}
theorem PBz_cg (h : PBz t w o s k f bb f0 fr va tb nn K) (et : t1 = t) (ew : w1 = w) (eo : o1 = o) (es : s1 = s) (ek : k1 = k) (ef : f1 = f) : PBz t1 w1 o1 s1 k1 f1 bb f0 fr va tb nn K := by
  rw [et, ew, eo, es, ek, ef]; exact h
theorem PSz_cg (h : PSz t w p o s k f g bb f0 fr ba tb nn K iw) (et : t1 = t) (ew : w1 = w) (ep : p1 = p) (eo : o1 = o) (es : s1 = s) (ek : k1 = k) (ef : f1 = f) (eg : g1 = g) : PSz t1 w1 p1 o1 s1 k1 f1 g1 bb f0 fr ba tb nn K iw := by
  rw [et, ew, ep, eo, es, ek, ef, eg]; exact h
theorem PBz_K {K1 : Int} (h : PBz t w o s k f bb f0 fr va tb nn K) (h1 : K1 ≤ K) (h2 : 0 ≤ K1) : PBz t w o s k f bb f0 fr va tb nn K1 := by
  obtain ⟨a1, a2, a3, a4, a5, a6, a7, a8⟩ := h
  exact ⟨a1, a2, a3, a4, a5, a6, ⟨a7.1, a7.2.1, a7.2.2.1, h2⟩, by omega, fun q => by have := a8.2.1 q; omega, a8.2.2⟩
theorem PBz_tok (h : PBz t w o s k f bb f0 fr va tb nn K) (hk : k ≠ 0) (h1 : s ≤ s1) (h2 : k1 = 0 ∨ s + 1 ≤ s1) (h3 : s1 ≤ 300) (et : t1 = t) (ew : w1 = w) (eo : o1 = o) (ef : f1 = f) : PBz t1 w1 o1 s1 k1 f1 bb f0 fr va tb nn (K + 1) := by
  rw [et, ew, eo, ef]
  obtain ⟨a1, a2, a3, a4, a5, a6, a7, a8⟩ := h
  have h8 := a8.2.1 hk
  exact ⟨a1, a2, a3, a4, a5, a6, ⟨a7.1, a7.2.1, a7.2.2.1, by omega⟩, by omega, fun q => by omega, h3⟩
theorem PBz_w (h : PBz t w o s k f bb f0 fr va tb nn K) (hk : k ≠ 0 ∨ 1 ≤ K) : 0 ≤ w ∧ w ≤ 299 := by
  obtain ⟨a1, a2, a3, a4, a5, a6, a7, a8⟩ := h
  rcases hk with q | q
  · have := a8.2.1 q; omega
  · omega
theorem PBz_em0 (h : PBz t w o s k f bb f0 fr va tb nn K) (hg : ∀ j : Nat, (j : Int) < t + 250 + 2 * w → f1 j = f j) (hat : f1 (t + 250 + 2 * w).toNat = x) (hr : (x.toInt ≤ 1 ∧ va1 = va + 1 ∧ tb1 = tb) ∨ (x.toInt = 2 ∧ 1 ≤ va ∧ va1 = va ∧ tb1 = tb) ∨ ((2 < x.toInt ∧ x.toInt < 10) ∧ 2 ≤ va ∧ va1 = va - 1 ∧ tb1 = tb) ∨ ((10 ≤ x.toInt ∧ x.toInt < 20) ∧ 2 ≤ va ∧ va1 = va - 2 ∧ tb1 = tb + 1) ∨ (x.toInt = 20 ∧ 1 ≤ tb ∧ va1 = va ∧ tb1 = tb) ∨ (20 < x.toInt ∧ 2 ≤ tb ∧ va1 = va ∧ tb1 = tb - 1)) : (t = 3720 + 900 * (f1 6).toInt ∧ 0 ≤ (f1 6).toInt ∧ (f1 6).toInt ≤ 9) ∧ ((bb : Int) = 3970 + 900 * (f1 6).toInt + 2 * fr ∧ 0 ≤ fr ∧ fr ≤ w + 1) ∧ (∀ j : Nat, j < bb → f1 j = f0 j) ∧ oN f1 bb fr (w + 1) ∧ vN f1 bb fr (w + 1) = va1 ∧ tN f1 bb fr (w + 1) = tb1 := by
  obtain ⟨a1, a2, a3, a4, a5, a6, a7, a8⟩ := h
  have e6 : f1 6 = f 6 := hg 6 (by omega)
  have hb : ∀ j : Nat, (j : Int) < w - fr → f1 (bb + 2 * j) = f (bb + 2 * j) := fun j hj => hg _ (by omega)
  have he : f1 (bb + 2 * (w - fr).toNat) = x := by
    rw [show bb + 2 * (w - fr).toNat = (t + 250 + 2 * w).toNat from by omega]; exact hat
  have hq : (x.toInt = 2 → 1 ≤ vN f bb fr w) ∧ (2 < x.toInt ∧ x.toInt < 20 → 2 ≤ vN f bb fr w) ∧ (x.toInt = 20 → 1 ≤ tN f bb fr w) ∧ (20 < x.toInt → 2 ≤ tN f bb fr w) := by
    rw [a5, a6]
    exact ⟨fun q => by omega, fun q => by omega, fun q => by omega, fun q => by omega⟩
  obtain ⟨b0, b1, b2, b3, b4, b5, b6⟩ := em_all a2.2.2 hb he a4 hq
  rw [a5, a6] at b1 b2 b3 b4 b5 b6
  refine ⟨by rw [e6]; exact a1, by rw [e6]; omega, fun j hj => (hg j (by omega)).trans (a3 j hj), b0, ?_⟩
  rcases hr with ⟨q, q2, q3⟩ | ⟨q, q1, q2, q3⟩ | ⟨q, q1, q2, q3⟩ | ⟨q, q1, q2, q3⟩ | ⟨q, q1, q2, q3⟩ | ⟨q, q1, q2, q3⟩
  · have := b1 q; exact ⟨by omega, by omega⟩
  · have := b2 q; exact ⟨by omega, by omega⟩
  · have := b3 q; exact ⟨by omega, by omega⟩
  · have := b4 q; exact ⟨by omega, by omega⟩
  · have := b5 q; exact ⟨by omega, by omega⟩
  · have := b6 q; exact ⟨by omega, by omega⟩
/-- a word is written, for which a token is to spare -/
theorem PBz_em (h : PBz t w o s k f bb f0 fr va tb nn (K + 1)) (hK : 0 ≤ K) (hg : ∀ j : Nat, (j : Int) < t + 250 + 2 * w → f1 j = f j) (hat : f1 (t + 250 + 2 * w).toNat = x) (hr : (x.toInt ≤ 1 ∧ va1 = va + 1 ∧ tb1 = tb) ∨ (x.toInt = 2 ∧ 1 ≤ va ∧ va1 = va ∧ tb1 = tb) ∨ ((2 < x.toInt ∧ x.toInt < 10) ∧ 2 ≤ va ∧ va1 = va - 1 ∧ tb1 = tb) ∨ ((10 ≤ x.toInt ∧ x.toInt < 20) ∧ 2 ≤ va ∧ va1 = va - 2 ∧ tb1 = tb + 1) ∨ (x.toInt = 20 ∧ 1 ≤ tb ∧ va1 = va ∧ tb1 = tb) ∨ (20 < x.toInt ∧ 2 ≤ tb ∧ va1 = va ∧ tb1 = tb - 1)) (et : t1 = t) (ew : w1 = w + 1) (eo : o1 = o) (es : s1 = s) (ek : k1 = k) : PBz t1 w1 o1 s1 k1 f1 bb f0 fr va1 tb1 nn K := by
  obtain ⟨c1, c2, c3, c4, c5, c6⟩ := PBz_em0 h hg hat hr
  obtain ⟨a1, a2, a3, a4, a5, a6, a7, a8⟩ := h
  rw [et, ew, eo, es, ek]
  exact ⟨c1, c2, c3, c4, c5, c6, ⟨a7.1, a7.2.1, a7.2.2.1, hK⟩, by omega, fun q => by have := a8.2.1 q; omega, a8.2.2⟩
/-- a word is written for the token at hand, and the next one comes -/
theorem PBz_emt (h : PBz t w o s k f bb f0 fr va tb nn K) (hk : k ≠ 0) (hg : ∀ j : Nat, (j : Int) < t + 250 + 2 * w → f1 j = f j) (hat : f1 (t + 250 + 2 * w).toNat = x) (hx : x.toInt ≤ 1) (h1 : s ≤ s1) (h2 : k1 = 0 ∨ s + 1 ≤ s1) (h3 : s1 ≤ 300) (et : t1 = t) (ew : w1 = w + 1) (eo : o1 = o) : PBz t1 w1 o1 s1 k1 f1 bb f0 fr (va + 1) tb nn K := by
  obtain ⟨c1, c2, c3, c4, c5, c6⟩ := PBz_em0 (va1 := va + 1) (tb1 := tb) h hg hat (Or.inl ⟨hx, rfl, rfl⟩)
  obtain ⟨a1, a2, a3, a4, a5, a6, a7, a8⟩ := h
  have h8 := a8.2.1 hk
  rw [et, ew, eo]
  exact ⟨c1, c2, c3, c4, c5, c6, a7, by omega, fun q => by omega, h3⟩
theorem PBz_o (h : PBz t w o s k f bb f0 fr va tb nn K) {o2 n2 : Int} (e : o2 = n2) (h0 : 0 ≤ n2) (h8 : n2 ≤ 8) : PBz t w o2 s k f bb f0 fr va tb n2 K := by
  obtain ⟨a1, a2, a3, a4, a5, a6, a7, a8⟩ := h
  exact ⟨a1, a2, a3, a4, a5, a6, ⟨e, h0, h8, a7.2.2.2⟩, a8⟩
theorem PBz_tv (h : PBz t w o s k f bb f0 fr va tb nn K) : 0 ≤ va ∧ 0 ≤ tb := by
  obtain ⟨a1, a2, a3, a4, a5, a6, a7, a8⟩ := h
  have := oN_b a4 a2.2.2
  omega
theorem PBz_op (h : PBz t w o s k f bb f0 fr va tb nn K) : o = nn ∧ 0 ≤ nn ∧ nn ≤ 8 ∧ 0 ≤ K := h.2.2.2.2.2.2.1
theorem PBz_t (h : PBz t w o s k f bb f0 fr va tb nn K) : t = 3720 + 900 * (f 6).toInt ∧ 0 ≤ (f 6).toInt ∧ (f 6).toInt ≤ 9 := h.1
/-- a sum begins, a sum ends -/
theorem PSz_0 (h : PBz t w o s k f bb f0 fr va tb nn K) (g : Nat → Int32) (hv : 0 ≤ va) (ep : p1 = 0) : PSz t w p1 o s k f g bb f0 fr va tb nn K 0 := by
  subst ep
  have z : (0 : Int).toNat = 0 := rfl
  have c0 : cO g 0 = 0 := rfl
  unfold PSz
  rw [z, c0]
  have e1 : va + (0 - 0) + 0 = va := by omega
  have e2 : nn + 0 = nn := by omega
  have e3 : K + 0 = K := by omega
  rw [e1, e2, e3]
  exact ⟨h, fun j hj => absurd hj (Nat.not_lt_zero _), Int.le_refl _, (PBz_op h).2.1, (PBz_op h).2.2.2, hv⟩
theorem PSz_e (h : PSz t w p o s k f g bb f0 fr ba tb nn K 1) (ep : p = 0) : PBz t w o s k f bb f0 fr (ba + 1) tb nn K := by
  subst ep
  have z : (0 : Int).toNat = 0 := rfl
  have c0 : cO g 0 = 0 := rfl
  have h1 := h.1
  rw [z, c0] at h1
  have e1 : ba + (0 - 0) + 1 = ba + 1 := by omega
  have e2 : nn + 0 = nn := by omega
  have e3 : K + 0 = K := by omega
  rw [e1, e2, e3] at h1
  exact h1
theorem PSz_bd (h : PSz t w p o s k f g bb f0 fr ba tb nn K iw) : p ≤ 26 ∧ 0 ≤ p ∧ 0 ≤ cO g p.toNat ∧ cO g p.toNat ≤ p ∧ o = nn + cO g p.toNat ∧ o ≤ 8 ∧ 0 ≤ nn := by
  obtain ⟨h1, h2, h3, h4, h5, h6⟩ := h
  have b1 := (LP_bd _ h2).1
  have b2 := PBz_op h1
  have b3 := cO_b g p.toNat
  omega
theorem PSz_w (h : PSz t w p o s k f g bb f0 fr ba tb nn K iw) (hk : k ≠ 0 ∨ 1 ≤ p) : 0 ≤ w ∧ w ≤ 299 := by
  obtain ⟨h1, h2, h3, h4, h5, h6⟩ := h
  exact PBz_w h1 (hk.elim Or.inl (fun q => Or.inr (by omega)))
theorem PSz_t (h : PSz t w p o s k f g bb f0 fr ba tb nn K iw) : t = 3720 + 900 * (f 6).toInt ∧ 0 ≤ (f 6).toInt ∧ (f 6).toInt ≤ 9 := PBz_t h.1
/-- one is named or numbered -/
theorem PSz_one (h : PSz t w p o s k f g bb f0 fr ba tb nn K 0) (hk : k ≠ 0) (hg : ∀ j : Nat, (j : Int) < t + 250 + 2 * w → f1 j = f j) (hat : f1 (t + 250 + 2 * w).toNat = x) (hx : x.toInt ≤ 1) (h1 : s ≤ s1) (h2 : k1 = 0 ∨ s + 1 ≤ s1) (h3 : s1 ≤ 300) (et : t1 = t) (ew : w1 = w + 1) (ep : p1 = p) (eo : o1 = o) (eg : g1 = g) : PSz t1 w1 p1 o1 s1 k1 f1 g1 bb f0 fr ba tb nn K 1 := by
  rw [ep, eg]
  refine ⟨?_, h.2⟩
  have q := PBz_emt h.1 hk hg hat hx h1 h2 h3 et ew eo
  rw [show ba + (p - cO g p.toNat) + 0 + 1 = ba + (p - cO g p.toNat) + 1 from by omega] at q
  exact q
/-- a bracket or a sign is opened, and the next token comes -/
theorem PSz_open (h : PSz t w p o s k f g bb f0 fr ba tb nn K 0) (hk : k ≠ 0) (h8 : o ≠ 8) (hx : x.toInt = 2 ∨ x.toInt = 40) (h1 : s ≤ s1) (h2 : k1 = 0 ∨ s + 1 ≤ s1) (h3 : s1 ≤ 300) (et : t1 = t) (ew : w1 = w) (ep : p1 = p + 1) (eo : o1 = o + 1) (ef : f1 = f) (eg : g1 = upd g p.toNat x) : PSz t1 w1 p1 o1 s1 k1 f1 g1 bb f0 fr ba tb nn K 0 := by
  obtain ⟨a0, a2, a3, a4, a5, a6⟩ := h
  have b2 := PBz_op a0
  have e1 : p1.toNat = p.toNat + 1 := by omega
  have c1 : cO g1 p1.toNat = cO g p.toNat + 1 := by rw [e1, cO_push eg, if_pos hx]
  refine ⟨?_, ?_, by omega, a4, a5, a6⟩
  · have q := PBz_tok a0 hk h1 h2 h3 (f1 := f1) et ew rfl ef
    have q2 := PBz_o q (o2 := o1) (n2 := nn + cO g1 p1.toNat) (by omega) (by omega) (by omega)
    rw [show ba + (p1 - cO g1 p1.toNat) + 0 = ba + (p - cO g p.toNat) + 0 from by omega, show K + p1 = K + p + 1 from by omega]
    exact q2
  · rw [e1]
    exact LP_push a2 eg (by omega) (fun q => absurd hx q)
theorem PSz_tok (h : PSz t w p o s k f g bb f0 fr ba tb nn K iw) (hk : k ≠ 0) (h1 : s ≤ s1) (h2 : k1 = 0 ∨ s + 1 ≤ s1) (h3 : s1 ≤ 300) (et : t1 = t) (ew : w1 = w) (ep : p1 = p) (eo : o1 = o) (ef : f1 = f) (eg : g1 = g) : PSz t1 w1 p1 o1 s1 k1 f1 g1 bb f0 fr ba tb nn (K + 1) iw := by
  rw [ep, eg]
  obtain ⟨a0, a2, a3, a4, a5, a6⟩ := h
  have q := PBz_tok a0 hk h1 h2 h3 (f1 := f1) et ew eo ef
  rw [show K + p + 1 = K + 1 + p from by omega] at q
  exact ⟨q, a2, a3, a4, by omega, a6⟩
/-- a minus goes from the pile to the code -/
theorem PSz_popO (h : PSz t w p o s k f g bb f0 fr ba tb nn K 1) (hp : 0 < p) (ht : (g (p.toNat - 1)).toInt = 2) (hx : x.toInt = 2) (hg : ∀ j : Nat, (j : Int) < t + 250 + 2 * w → f1 j = f j) (hat : f1 (t + 250 + 2 * w).toNat = x) (et : t1 = t) (ew : w1 = w + 1) (ep : p1 = p - 1) (eo : o1 = o - 1) (es : s1 = s) (ek : k1 = k) (eg : g1 = g) : PSz t1 w1 p1 o1 s1 k1 f1 g1 bb f0 fr ba tb nn K 1 := by
  rw [eg]
  obtain ⟨a0, a2, a3, a4, a5, a6⟩ := h
  have b2 := PBz_op a0
  have e1 : p.toNat = p1.toNat + 1 := by omega
  have c1 : cO g p.toNat = cO g p1.toNat + 1 := by
    rw [e1]
    exact cO_o (Or.inl (by rw [show p1.toNat = p.toNat - 1 from by omega]; exact ht))
  have c2 := cO_b g p1.toNat
  refine ⟨?_, LP_le a2 (by omega), by omega, a4, a5, a6⟩
  have a1 : PBz t w o s k f bb f0 fr (ba + (p - cO g p.toNat) + 1) tb (nn + cO g p.toNat) (K + p1 + 1) := by
    rw [show K + p1 + 1 = K + p from by omega]; exact a0
  have q := PBz_em (va1 := ba + (p - cO g p.toNat) + 1) (tb1 := tb) a1 (by omega) hg hat (Or.inr (Or.inl ⟨hx, by omega, rfl, rfl⟩)) et ew (o1 := o) rfl es ek
  have q2 := PBz_o q (o2 := o1) (n2 := nn + cO g p1.toNat) (by omega) (by omega) (by omega)
  rw [show ba + (p1 - cO g p1.toNat) + 1 = ba + (p - cO g p.toNat) + 1 from by omega]
  exact q2
/-- an operator of two goes from the pile to the code -/
theorem PSz_popB (h : PSz t w p o s k f g bb f0 fr ba tb nn K 1) (hp : 0 < p) (ht : g (p.toNat - 1) = x) (hx : 3 ≤ x.toInt ∧ x.toInt ≤ 6) (hg : ∀ j : Nat, (j : Int) < t + 250 + 2 * w → f1 j = f j) (hat : f1 (t + 250 + 2 * w).toNat = x) (et : t1 = t) (ew : w1 = w + 1) (ep : p1 = p - 1) (eo : o1 = o) (es : s1 = s) (ek : k1 = k) (eg : g1 = g) : PSz t1 w1 p1 o1 s1 k1 f1 g1 bb f0 fr ba tb nn K 1 := by
  rw [eg]
  obtain ⟨a0, a2, a3, a4, a5, a6⟩ := h
  have b2 := PBz_op a0
  have e1 : p.toNat = p1.toNat + 1 := by omega
  have c1 : cO g p.toNat = cO g p1.toNat := by
    rw [e1]
    refine cO_n (fun q => ?_)
    unfold isO at q
    rw [show p1.toNat = p.toNat - 1 from by omega, ht] at q
    omega
  have c2 := cO_b g p1.toNat
  refine ⟨?_, LP_le a2 (by omega), by omega, a4, a5, a6⟩
  have a1 : PBz t w o s k f bb f0 fr (ba + (p - cO g p.toNat) + 1) tb (nn + cO g p.toNat) (K + p1 + 1) := by
    rw [show K + p1 + 1 = K + p from by omega]; exact a0
  have q := PBz_em (va1 := ba + (p1 - cO g p1.toNat) + 1) (tb1 := tb) a1 (by omega) hg hat (Or.inr (Or.inr (Or.inl ⟨by omega, by omega, by omega, rfl⟩))) et ew eo es ek
  rw [← c1]
  rw [← c1] at q
  exact q
/-- a bracket is closed -/
theorem PSz_close (h : PSz t w p o s k f g bb f0 fr ba tb nn (K + 1) 1) (hK : 0 ≤ K) (hp : 0 < p) (ht : isO (g (p.toNat - 1))) (et : t1 = t) (ew : w1 = w) (ep : p1 = p - 1) (eo : o1 = o - 1) (es : s1 = s) (ek : k1 = k) (ef : f1 = f) (eg : g1 = g) : PSz t1 w1 p1 o1 s1 k1 f1 g1 bb f0 fr ba tb nn K 1 := by
  rw [et, ew, es, ek, ef, eg]
  obtain ⟨a0, a2, a3, a4, a5, a6⟩ := h
  have b2 := PBz_op a0
  have e1 : p.toNat = p1.toNat + 1 := by omega
  have c1 : cO g p.toNat = cO g p1.toNat + 1 := by
    rw [e1]
    exact cO_o (by rw [show p1.toNat = p.toNat - 1 from by omega]; exact ht)
  have c2 := cO_b g p1.toNat
  refine ⟨?_, LP_le a2 (by omega), by omega, a4, hK, a6⟩
  have q2 := PBz_o (PBz_K a0 (K1 := K + p1) (by omega) (by omega)) (o2 := o1) (n2 := nn + cO g p1.toNat) (by omega) (by omega) (by omega)
  rw [show ba + (p1 - cO g p1.toNat) + 1 = ba + (p - cO g p.toNat) + 1 from by omega]
  exact q2
/-- an operator of two comes into the pile -/
theorem PSz_push (h : PSz t w p o s k f g bb f0 fr ba tb nn (K + 1) 1) (hK : 0 ≤ K) (hx : 3 ≤ x.toInt ∧ x.toInt ≤ 6) (hl : p = 0 ∨ isO (g (p.toNat - 1)) ∨ ((g (p.toNat - 1)).toInt < 5 ∧ 5 ≤ x.toInt)) (et : t1 = t) (ew : w1 = w) (ep : p1 = p + 1) (eo : o1 = o) (es : s1 = s) (ek : k1 = k) (ef : f1 = f) (eg : g1 = upd g p.toNat x) : PSz t1 w1 p1 o1 s1 k1 f1 g1 bb f0 fr ba tb nn K 0 := by
  rw [et, ew, eo, es, ek, ef]
  obtain ⟨a0, a2, a3, a4, a5, a6⟩ := h
  have e1 : p1.toNat = p.toNat + 1 := by omega
  have hn : ¬ isO x := fun q => by unfold isO at q; omega
  have c1 : cO g1 p1.toNat = cO g p.toNat := by rw [e1, cO_push eg, if_neg (show ¬(x.toInt = 2 ∨ x.toInt = 40) from hn), Int.add_zero]
  refine ⟨?_, ?_, by omega, a4, hK, a6⟩
  · rw [c1, show ba + (p1 - cO g p.toNat) + 0 = ba + (p - cO g p.toNat) + 1 from by omega, show K + p1 = K + 1 + p from by omega]
    exact a0
  · rw [e1]
    refine LP_push a2 eg (by omega) (fun _ h1 h2 => ?_)
    rcases hl with q | q | q
    · omega
    · exact absurd q h2
    · unfold lvl
      rw [if_pos (by omega), if_neg (by omega)]
      decide
end PZ
/-- the clauses of a text under way that were read: w words are written -/
def TXQ (f : Nat → Int32) (w n : Int) : Prop := ∀ c : Nat, (c : Int) < n → 1 ≤ (f (3721 + 900 * (f 6).toNatClampNeg + 12 * c)).toInt → (f (3721 + 900 * (f 6).toNatClampNeg + 12 * c)).toInt ≤ 4 → 0 ≤ (f (3721 + 900 * (f 6).toNatClampNeg + 12 * c + 2)).toInt ∧ (f (3721 + 900 * (f 6).toNatClampNeg + 12 * c + 2)).toInt ≤ (f (3721 + 900 * (f 6).toNatClampNeg + 12 * c + 3)).toInt ∧ (f (3721 + 900 * (f 6).toNatClampNeg + 12 * c + 3)).toInt ≤ w ∧ (rnn f (3970 + 900 * (f 6).toNatClampNeg + 2 * (f (3721 + 900 * (f 6).toNatClampNeg + 12 * c + 2)).toNatClampNeg) ((f (3721 + 900 * (f 6).toNatClampNeg + 12 * c + 3)).toNatClampNeg - (f (3721 + 900 * (f 6).toNatClampNeg + 12 * c + 2)).toNatClampNeg)).2.2 = true
theorem TXQ_0 {f : Nat → Int32} {w : Int} : TXQ f w 0 := fun c hc => absurd hc (by omega)
/-- a clause more: of a sort with code, or another one -/
theorem TXQ_add {f g : Nat → Int32} {w w1 : Int} {n : Nat} (h : TXQ f w n) (hn : n ≤ 19) (h6 : 0 ≤ (f 6).toInt ∧ (f 6).toInt ≤ 9) (hw : 0 ≤ w ∧ w ≤ w1) (hg : ∀ j : Nat, (j : Int) < 3970 + 900 * (f 6).toInt + 2 * w → ((j : Int) < 3721 + 900 * (f 6).toInt + 12 * n ∨ 3721 + 900 * (f 6).toInt + 12 * n + 12 ≤ (j : Int)) → g j = f j) (hs : (g (3721 + 900 * (f 6).toNatClampNeg + 12 * n)).toInt < 1 ∨ 4 < (g (3721 + 900 * (f 6).toNatClampNeg + 12 * n)).toInt ∨ ((g (3721 + 900 * (f 6).toNatClampNeg + 12 * n + 2)).toInt = w ∧ (g (3721 + 900 * (f 6).toNatClampNeg + 12 * n + 3)).toInt = w1 ∧ oN g (3970 + 900 * (f 6).toNatClampNeg + 2 * w.toNat) w w1)) : TXQ g w1 (n + 1 : Nat) := by
  have e6 : g 6 = f 6 := hg 6 (by omega) (Or.inl (by omega))
  have z6 := clampE (f 6)
  intro c hc h1 h2
  rw [e6] at h1 h2 ⊢
  by_cases hcn : c < n
  · have gk : ∀ k, k < 12 → g (3721 + 900 * (f 6).toNatClampNeg + 12 * c + k) = f (3721 + 900 * (f 6).toNatClampNeg + 12 * c + k) := fun k hk => hg _ (by omega) (Or.inl (by omega))
    rw [show g (3721 + 900 * (f 6).toNatClampNeg + 12 * c) = f (3721 + 900 * (f 6).toNatClampNeg + 12 * c) from gk 0 (by decide +kernel)] at h1 h2
    obtain ⟨w1', w2', w3', w4'⟩ := h c (by omega) h1 h2
    rw [gk 2 (by decide +kernel), gk 3 (by decide +kernel)]
    refine ⟨w1', w2', by omega, ?_⟩
    rw [rnn_cg _ (fun j hj => ?_)]
    · exact w4'
    · have z1 := clampE (f (3721 + 900 * (f 6).toNatClampNeg + 12 * c + 2))
      have z2 := clampE (f (3721 + 900 * (f 6).toNatClampNeg + 12 * c + 3))
      exact hg _ (by omega) (Or.inr (by omega))
  · have ec : c = n := by omega
    subst ec
    rcases hs with q | q | ⟨q2, q3, q4⟩
    · omega
    · omega
    · have z1 := clampE (g (3721 + 900 * (f 6).toNatClampNeg + 12 * c + 2))
      have z2 := clampE (g (3721 + 900 * (f 6).toNatClampNeg + 12 * c + 3))
      refine ⟨by omega, by omega, by omega, ?_⟩
      unfold oN at q4
      rw [show (g (3721 + 900 * (f 6).toNatClampNeg + 12 * c + 2)).toNatClampNeg = w.toNat from by omega, show (g (3721 + 900 * (f 6).toNatClampNeg + 12 * c + 3)).toNatClampNeg - w.toNat = (w1 - w).toNat from by omega]
      exact q4
theorem tm_cg {a b c d a1 b1 c1 d1 : Int} (h : tmM a b < tmM c d) (ea : a1 = a) (eb : b1 = b) (ec : c1 = c) (ed : d1 = d) : tmM a1 b1 < tmM c1 d1 := by
  rw [ea, eb, ec, ed]; exact h
theorem PSz_hl {t w p o s k : Int} {f g f0 : Nat → Int32} {bb : Nat} {fr ba tb nn K iw a : Int} {x : Int32} (h : PSz t w p o s k f g bb f0 fr ba tb nn K iw) (ht : p = 0 ∨ (g (p.toNat - 1)).toInt < a ∨ 6 < (g (p.toNat - 1)).toInt) (ha : a = 3 ∨ a = 5 ∧ 5 ≤ x.toInt) : p = 0 ∨ isO (g (p.toNat - 1)) ∨ ((g (p.toNat - 1)).toInt < 5 ∧ 5 ≤ x.toInt) := by
  have hp := h.2.2.1
  rcases ht with q | q
  · exact Or.inl q
  · by_cases hz : p = 0
    · exact Or.inl hz
    · have hl := (h.2.1 (p.toNat - 1) (by omega)).1
      unfold isO
      omega
theorem GA_w6 {f : Nat → Int32} (h : GA f) {x : Int32} (h0 : x.toInt = (f 6).toInt + 1) (hx : x.toInt ≤ 10) (hq : TXQ f 300 (f (3720 + 900 * (f 6).toNatClampNeg)).toInt) : GA (upd f 6 x) := by
  have r6 := GA_r h zn_6 (lo := 0) (hi := 10) rfl
  obtain ⟨r6a, r6b⟩ := r6
  have u : ∀ j, j ≠ 6 → upd f 6 x j = f j := fun j hj => by unfold upd; rw [if_neg (fun e => hj e)]
  have u6 : upd f 6 x 6 = x := by unfold upd; rw [if_pos rfl]
  refine ⟨⟨fun j => ?_, fun j hj => ?_⟩, fun t ht c hc h1 h2 => ?_, fun q hq2 => ?_⟩
  · by_cases hj : j = 6
    · rw [hj, u6, zn_6]
      exact ⟨by show (0 : Int) ≤ _; omega, by show _ ≤ (10 : Int); omega⟩
    · rw [u j hj]; exact h.1.1 j
  · by_cases hj6 : j = 6
    · rw [hj6, zn_6] at hj; exact absurd hj (by decide +kernel)
    · rw [u j hj6]; exact h.1.2 j hj
  · rw [u6] at ht
    rw [u _ (by omega)] at hc
    rw [u _ (by omega)] at h1 h2
    rw [u _ (by omega), u _ (by omega)]
    rw [rnn_cg (f := f) _ (fun j hj => u _ (by omega))]
    by_cases hlt : (t : Int) < (f 6).toInt
    · exact h.2.1 t hlt c hc h1 h2
    · have e6 := clampE (f 6)
      have et : t = (f 6).toNatClampNeg := by omega
      subst et
      exact hq c hc h1 h2
  · rw [u 7 (by decide +kernel)] at hq2
    rw [u _ (by omega), u6]
    have := h.2.2 q hq2
    omega
theorem GM.w6 {X : List Nat} {tg : Nat → Nat} {σ : pq_S} {I0 r0 I ri r1 : Nat → Nat → Int32} {rq : Nat → Nat → Option Nat} (h : GM X tg σ I0 r0 I ri rq) {q t : Nat} {v x : Int32} (ht : tg q = t) (hz : zt t = true ∧ rAm t = (-2147483648, 2147483647)) (e1 : r1 = va_up ri q (upd (ri q) v.toNatClampNeg x)) (hv : v.toNatClampNeg = 6) (h0 : x.toInt = (ri q 6).toInt + 1) (hx : x.toInt ≤ 10) (hq : TXQ (ri q) 300 (ri q (3720 + 900 * (ri q 6).toNatClampNeg)).toInt) (hX : 1006 ∈ X ∧ ∀ p ∈ frl, p.1 = t → p.2 ∈ X) : GM X tg σ I0 r0 I r1 rq := by
  have hb := (GA_r (h.1.2.2.1 q (by rw [ht]; exact hz.1)) zn_6 (lo := 0) (hi := 10) rfl).1
  exact GM.wz0 h ht hz.1 hz.2 e1 (k := 6) (by rw [hv]; exact zn_6) (lo := 0) (hi := 10) rfl ⟨by omega, hx⟩ ⟨Or.inr hX.1, hX.2⟩ (fun hG => by rw [hv]; exact GA_w6 hG h0 hx hq) (fun e => absurd e (by decide +kernel))
/-- a write in the head of a clause under way, whichever -/
theorem GM.wth {X : List Nat} {tg : Nat → Nat} {σ : pq_S} {I0 r0 I ri r1 : Nat → Nat → Int32} {rq : Nat → Nat → Option Nat} (h : GM X tg σ I0 r0 I ri rq) {q t n k : Nat} {v x : Int32} (ht : tg q = t) (hz : zt t = true ∧ rAm t = (-2147483648, 2147483647)) (e1 : r1 = va_up ri q (upd (ri q) v.toNatClampNeg x)) (c : Nat) (hc : c < 20) (hn : n < 10) (e : v.toNatClampNeg = 3721 + 900 * n + 12 * c + k) (hk : 5 ≤ k ∧ k < 9) (hv : 3720 + 900 * (ri q 6).toInt ≤ (v.toNatClampNeg : Int)) (hX : ∀ p ∈ frl, p.1 = t → p.2 ∈ X) : GM X tg σ I0 r0 I r1 rq := by
  have hk' : k = 5 ∨ k = 6 ∨ k = 7 ∨ k = 8 := by omega
  have ez := zn_tc e hn hc (show k < 12 by omega)
  rcases hk' with q | q | q | q <;> (subst q; exact GM.wt h ht hz e1 ez (lo := -2147483648) (hi := 2147483647) rfl (rg_full _) hv ⟨⟨Or.inl (by decide +kernel), hX⟩, by decide +kernel⟩)
theorem tm_lec {a b a1 b1 x : Int} (h : tmM a b ≤ x) (ea : a1 = a) (eb : b1 = b) : tmM a1 b1 ≤ x := by
  rw [ea, eb]; exact h
/-- what holds between two clauses: n clauses were read -/
def CLz (t w o s k n : Int) (f : Nat → Int32) : Prop := (t = 3720 + 900 * (f 6).toInt ∧ 0 ≤ (f 6).toInt ∧ (f 6).toInt ≤ 9) ∧ TXQ f w n ∧ (0 ≤ n ∧ n ≤ 20) ∧ (o = 0 ∧ 0 ≤ w) ∧ (w ≤ s ∧ (k ≠ 0 → w + 1 ≤ s) ∧ s ≤ 300)
theorem PBz_new {t w o s k : Int} {f : Nat → Int32} (ht : t = 3720 + 900 * (f 6).toInt ∧ 0 ≤ (f 6).toInt ∧ (f 6).toInt ≤ 9) (ho : o = 0) (hw : 0 ≤ w) (h1 : w ≤ s) (h2 : k ≠ 0 → w + 1 ≤ s) (h3 : s ≤ 300) : PBz t w o s k f (3970 + 900 * (f 6).toInt + 2 * w).toNat f w 0 0 0 0 := by
  refine ⟨ht, ⟨by omega, hw, Int.le_refl _⟩, fun _ _ => rfl, ?_, ?_, ?_, ⟨ho, by decide +kernel, by decide +kernel, by decide +kernel⟩, by omega, fun q => by have := h2 q; omega, h3⟩
  · unfold oN; rw [Int.sub_self]; rfl
  · unfold vN; rw [Int.sub_self]; rfl
  · unfold tN; rw [Int.sub_self]; rfl
theorem upd_at {f : Nat → Int32} {i j : Nat} {x : Int32} (h : j = i) : upd f i x j = x := by unfold upd; rw [if_pos h]
theorem upd_off {f : Nat → Int32} {i j : Nat} {x : Int32} (h : j ≠ i) : upd f i x j = f j := by unfold upd; rw [if_neg h]
theorem TXQ_code {f f1 f2 f3 f4 : Nat → Int32} {t w w1 o s k va tb nn K : Int} {bb ci i2 i3 : Nat} {n : Nat} {xs xw xw1 : Int32} (h : TXQ f w n) (hn : n ≤ 19) (h6 : 0 ≤ (f 6).toInt ∧ (f 6).toInt ≤ 9) (hw : 0 ≤ w) (hci : (ci : Int) = 3721 + 900 * (f 6).toInt + 12 * n) (e1 : f1 = upd f ci xs) (hi2 : i2 = ci + 2) (e2 : f2 = upd f1 i2 xw) (hP : PBz t w1 o s k f3 bb f2 w va tb nn K) (hi3 : i3 = ci + 3) (e4 : f4 = upd f3 i3 xw1) (hxw : xw.toInt = w) (hxw1 : xw1.toInt = w1) : TXQ f4 w1 (n + 1 : Nat) := by
  subst hi2 hi3
  have z6 := clampE (f 6)
  obtain ⟨a1, a2, a3, a4, a5, a6, a7, a8⟩ := hP
  have g2 : ∀ j : Nat, j ≠ ci → j ≠ ci + 2 → f2 j = f j := fun j h1 h2 => by rw [e2, upd_off h2, e1, upd_off h1]
  have h36 : f3 6 = f 6 := by
    by_cases hb : 6 < bb
    · rw [a3 6 hb, g2 6 (by omega) (by omega)]
    · omega
  rw [h36] at a2
  have g4 : ∀ j : Nat, j < bb → j ≠ ci → j ≠ ci + 2 → j ≠ ci + 3 → f4 j = f j := fun j hb h1 h2 h3 => by rw [e4, upd_off h3, a3 j hb, g2 j h1 h2]
  refine TXQ_add h hn h6 ⟨hw, by omega⟩ (fun j hj hx => g4 j (by omega) (by omega) (by omega) (by omega)) (Or.inr (Or.inr ⟨?_, ?_, ?_⟩))
  · rw [show 3721 + 900 * (f 6).toNatClampNeg + 12 * n + 2 = ci + 2 from by omega, e4, upd_off (by omega), a3 _ (by omega), e2, upd_at rfl]
    exact hxw
  · rw [show 3721 + 900 * (f 6).toNatClampNeg + 12 * n + 3 = ci + 3 from by omega, e4, upd_at rfl]
    exact hxw1
  · rw [show 3970 + 900 * (f 6).toNatClampNeg + 2 * w.toNat = bb from by omega]
    unfold oN at a4 ⊢
    rw [rnn_cg (f := f3) _ (fun j hj => by rw [e4, upd_off (by omega)])]
    exact a4
theorem TXQ_other {f f1 f2 : Nat → Int32} {w : Int} {ci : Nat} {n : Nat} {xs : Int32} (h : TXQ f w n) (hn : n ≤ 19) (h6 : 0 ≤ (f 6).toInt ∧ (f 6).toInt ≤ 9) (hw : 0 ≤ w) (hci : (ci : Int) = 3721 + 900 * (f 6).toInt + 12 * n) (e1 : f1 = upd f ci xs) (hx : 4 < xs.toInt) (e2 : ∀ j : Nat, (j ≤ ci ∨ ci + 12 ≤ j) → f2 j = f1 j) : TXQ f2 w (n + 1 : Nat) := by
  have z6 := clampE (f 6)
  refine TXQ_add h hn h6 ⟨hw, Int.le_refl _⟩ (fun j hj hjj => ?_) (Or.inr (Or.inl ?_))
  · rw [e2 j (by omega), e1, upd_off (by omega)]
  · rw [show 3721 + 900 * (f 6).toNatClampNeg + 12 * n = ci from by omega, e2 ci (by omega), e1, upd_at rfl]
    exact hx
theorem TXQ_end {f g : Nat → Int32} {w n : Int} {i : Nat} {x : Int32} (h : TXQ f w n) (hn : n ≤ 20) (hw : w ≤ 300) (h6 : 0 ≤ (f 6).toInt ∧ (f 6).toInt ≤ 9) (hi : (i : Int) = 3720 + 900 * (f 6).toInt) (e : g = upd f i x) (hx : x.toInt = n) : TXQ g 300 (g (3720 + 900 * (g 6).toNatClampNeg)).toInt := by
  have z6 := clampE (f 6)
  have e6 : g 6 = f 6 := by rw [e, upd_off (by omega)]
  rw [e6, show g (3720 + 900 * (f 6).toNatClampNeg) = x from by rw [e, upd_at (by omega)], hx]
  intro c hc h1 h2
  rw [e6] at h1 h2 ⊢
  have u : ∀ j : Nat, j ≠ i → g j = f j := fun j hj => by rw [e, upd_off hj]
  rw [u _ (by omega)] at h1 h2
  rw [u _ (by omega), u _ (by omega), rnn_cg (f := f) _ (fun j hj => u _ (by omega))]
  obtain ⟨b1, b2, b3, b4⟩ := h c hc h1 h2
  exact ⟨b1, b2, by omega, b4⟩
theorem CLz_mk {t w o s k n : Int} {f : Nat → Int32} (h1 : t = 3720 + 900 * (f 6).toInt ∧ 0 ≤ (f 6).toInt ∧ (f 6).toInt ≤ 9) (h2 : TXQ f w n) (h3 : 0 ≤ n ∧ n ≤ 20) (h4 : o = 0 ∧ 0 ≤ w) (h5 : w ≤ s) (h6 : k ≠ 0 → w + 1 ≤ s) (h7 : s ≤ 300) : CLz t w o s k n f := ⟨h1, h2, h3, h4, h5, h6, h7⟩
theorem dX12_w3_0 : decode cX12_w3 0 = .ok (.iload_n 0, 1) := oc_26 (by decide +kernel)
theorem dX12_w3_1 : decode cX12_w3 1 = .ok (.i2l, 1) := oc_133 (by decide +kernel)
theorem dX12_w3_2 : decode cX12_w3 2 = .ok (.bipush 8, 2) := oc_16 (a := 8) (by decide +kernel)
theorem dX12_w3_4 : decode cX12_w3 4 = .ok (.lshl, 1) := oc_121 (by decide +kernel)
theorem dX12_w3_5 : decode cX12_w3 5 = .ok (.iload_n 1, 1) := oc_27 (by decide +kernel)
theorem dX12_w3_6 : decode cX12_w3 6 = .ok (.i2l, 1) := oc_133 (by decide +kernel)
theorem dX12_w3_7 : decode cX12_w3 7 = .ok (.lor, 1) := oc_129 (by decide +kernel)
theorem dX12_w3_8 : decode cX12_w3 8 = .ok (.bipush 8, 2) := oc_16 (a := 8) (by decide +kernel)
theorem dX12_w3_10 : decode cX12_w3 10 = .ok (.lshl, 1) := oc_121 (by decide +kernel)
theorem dX12_w3_11 : decode cX12_w3 11 = .ok (.iload_n 2, 1) := oc_28 (by decide +kernel)
theorem dX12_w3_12 : decode cX12_w3 12 = .ok (.i2l, 1) := oc_133 (by decide +kernel)
theorem dX12_w3_13 : decode cX12_w3 13 = .ok (.lor, 1) := oc_129 (by decide +kernel)
theorem dX12_w3_14 : decode cX12_w3 14 = .ok (.lreturn, 1) := oc_173 (by decide +kernel)
theorem dX12_w4_0 : decode cX12_w4 0 = .ok (.iload_n 0, 1) := oc_26 (by decide +kernel)
theorem dX12_w4_1 : decode cX12_w4 1 = .ok (.iload_n 1, 1) := oc_27 (by decide +kernel)
theorem dX12_w4_2 : decode cX12_w4 2 = .ok (.iload_n 2, 1) := oc_28 (by decide +kernel)
theorem tw_864 : Cond.methodLink RX12 160 yX12_w3 ∈ wsL_law := sg_37 _ (List.mem_of_getElem? (i := 0) rfl)
theorem tw_865 : Cond.static yX12_w3 ∈ wsL_law := sg_37 _ (List.mem_of_getElem? (i := 1) rfl)
theorem tw_5 : Cond.initialized RX12 ∈ wsL_law := sg_1 _ (List.mem_of_getElem? (i := 5) rfl)
theorem tw_866 : Cond.code yX12_w3 cX12_w3 3 (some .long) ∈ wsL_law := sg_37 _ (List.mem_of_getElem? (i := 2) rfl)
theorem dX12_w4_3 : decode cX12_w4 3 = .ok (.invokestatic 160, 3) := oc_184 (a := 0) (b := 160) (by decide +kernel)
theorem dX12_w4_6 : decode cX12_w4 6 = .ok (.bipush 8, 2) := oc_16 (a := 8) (by decide +kernel)
theorem dX12_w4_8 : decode cX12_w4 8 = .ok (.lshl, 1) := oc_121 (by decide +kernel)
theorem dX12_w4_9 : decode cX12_w4 9 = .ok (.iload_n 3, 1) := oc_29 (by decide +kernel)
theorem dX12_w4_10 : decode cX12_w4 10 = .ok (.i2l, 1) := oc_133 (by decide +kernel)
theorem dX12_w4_11 : decode cX12_w4 11 = .ok (.lor, 1) := oc_129 (by decide +kernel)
theorem dX12_w4_12 : decode cX12_w4 12 = .ok (.lreturn, 1) := oc_173 (by decide +kernel)
theorem dX12_w5_0 : decode cX12_w5 0 = .ok (.iload_n 0, 1) := oc_26 (by decide +kernel)
theorem dX12_w5_1 : decode cX12_w5 1 = .ok (.iload_n 1, 1) := oc_27 (by decide +kernel)
theorem dX12_w5_2 : decode cX12_w5 2 = .ok (.iload_n 2, 1) := oc_28 (by decide +kernel)
theorem dX12_w5_3 : decode cX12_w5 3 = .ok (.iload_n 3, 1) := oc_29 (by decide +kernel)
theorem tw_861 : Cond.methodLink RX12 164 yX12_w4 ∈ wsL_law := sg_36 _ (List.mem_of_getElem? (i := 21) rfl)
theorem tw_862 : Cond.static yX12_w4 ∈ wsL_law := sg_36 _ (List.mem_of_getElem? (i := 22) rfl)
theorem tw_863 : Cond.code yX12_w4 cX12_w4 4 (some .long) ∈ wsL_law := sg_36 _ (List.mem_of_getElem? (i := 23) rfl)
theorem dX12_w5_4 : decode cX12_w5 4 = .ok (.invokestatic 164, 3) := oc_184 (a := 0) (b := 164) (by decide +kernel)
theorem dX12_w5_7 : decode cX12_w5 7 = .ok (.bipush 8, 2) := oc_16 (a := 8) (by decide +kernel)
theorem dX12_w5_9 : decode cX12_w5 9 = .ok (.lshl, 1) := oc_121 (by decide +kernel)
theorem dX12_w5_10 : decode cX12_w5 10 = .ok (.iload 4, 2) := oc_21 (by decide +kernel)
theorem dX12_w5_12 : decode cX12_w5 12 = .ok (.i2l, 1) := oc_133 (by decide +kernel)
theorem dX12_w5_13 : decode cX12_w5 13 = .ok (.lor, 1) := oc_129 (by decide +kernel)
theorem dX12_w5_14 : decode cX12_w5 14 = .ok (.lreturn, 1) := oc_173 (by decide +kernel)
theorem dX12_w6_0 : decode cX12_w6 0 = .ok (.iload_n 0, 1) := oc_26 (by decide +kernel)
theorem dX12_w6_1 : decode cX12_w6 1 = .ok (.iload_n 1, 1) := oc_27 (by decide +kernel)
theorem dX12_w6_2 : decode cX12_w6 2 = .ok (.iload_n 2, 1) := oc_28 (by decide +kernel)
theorem dX12_w6_3 : decode cX12_w6 3 = .ok (.iload_n 3, 1) := oc_29 (by decide +kernel)
theorem dX12_w6_4 : decode cX12_w6 4 = .ok (.iload 4, 2) := oc_21 (by decide +kernel)
theorem tw_858 : Cond.methodLink RX12 168 yX12_w5 ∈ wsL_law := sg_36 _ (List.mem_of_getElem? (i := 18) rfl)
theorem tw_859 : Cond.static yX12_w5 ∈ wsL_law := sg_36 _ (List.mem_of_getElem? (i := 19) rfl)
theorem tw_860 : Cond.code yX12_w5 cX12_w5 5 (some .long) ∈ wsL_law := sg_36 _ (List.mem_of_getElem? (i := 20) rfl)
theorem dX12_w6_6 : decode cX12_w6 6 = .ok (.invokestatic 168, 3) := oc_184 (a := 0) (b := 168) (by decide +kernel)
theorem dX12_w6_9 : decode cX12_w6 9 = .ok (.bipush 8, 2) := oc_16 (a := 8) (by decide +kernel)
theorem dX12_w6_11 : decode cX12_w6 11 = .ok (.lshl, 1) := oc_121 (by decide +kernel)
theorem dX12_w6_12 : decode cX12_w6 12 = .ok (.iload 5, 2) := oc_21 (by decide +kernel)
theorem dX12_w6_14 : decode cX12_w6 14 = .ok (.i2l, 1) := oc_133 (by decide +kernel)
theorem dX12_w6_15 : decode cX12_w6 15 = .ok (.lor, 1) := oc_129 (by decide +kernel)
theorem dX12_w6_16 : decode cX12_w6 16 = .ok (.lreturn, 1) := oc_173 (by decide +kernel)
theorem dX12_isIn_0 : decode cX12_isIn 0 = .ok (.iload_n 0, 1) := oc_26 (by decide +kernel)
theorem dX12_isIn_1 : decode cX12_isIn 1 = .ok (.iload_n 1, 1) := oc_27 (by decide +kernel)
theorem dX12_isIn_2 : decode cX12_isIn 2 = .ok (.if_icmp .lt 12, 3) := oc_161 (a := 0) (b := 12) (by decide +kernel)
theorem dX12_isIn_14 : decode cX12_isIn 14 = .ok (.iconst 0, 1) := oc_3 (by decide +kernel)
theorem dX12_isIn_15 : decode cX12_isIn 15 = .ok (.ireturn, 1) := oc_172 (by decide +kernel)
theorem dX12_isIn_5 : decode cX12_isIn 5 = .ok (.iload_n 0, 1) := oc_26 (by decide +kernel)
theorem dX12_isIn_6 : decode cX12_isIn 6 = .ok (.iload_n 2, 1) := oc_28 (by decide +kernel)
theorem dX12_isIn_7 : decode cX12_isIn 7 = .ok (.if_icmp .gt 7, 3) := oc_163 (a := 0) (b := 7) (by decide +kernel)
theorem dX12_isIn_10 : decode cX12_isIn 10 = .ok (.iconst 1, 1) := oc_4 (by decide +kernel)
theorem dX12_isIn_11 : decode cX12_isIn 11 = .ok (.goto 4, 3) := oc_167 (a := 0) (b := 4) (by decide +kernel)
theorem dX12_isDigit_0 : decode cX12_isDigit 0 = .ok (.iload_n 0, 1) := oc_26 (by decide +kernel)
theorem dX12_isDigit_1 : decode cX12_isDigit 1 = .ok (.bipush 48, 2) := oc_16 (a := 48) (by decide +kernel)
theorem dX12_isDigit_3 : decode cX12_isDigit 3 = .ok (.bipush 57, 2) := oc_16 (a := 57) (by decide +kernel)
theorem tw_235 : Cond.methodLink RX12 62 yX12_isIn ∈ wsL_law := sg_10 _ (List.mem_of_getElem? (i := 19) rfl)
theorem tw_236 : Cond.static yX12_isIn ∈ wsL_law := sg_10 _ (List.mem_of_getElem? (i := 20) rfl)
theorem tw_237 : Cond.code yX12_isIn cX12_isIn 3 (some .boolean) ∈ wsL_law := sg_10 _ (List.mem_of_getElem? (i := 21) rfl)
theorem dX12_isDigit_5 : decode cX12_isDigit 5 = .ok (.invokestatic 62, 3) := oc_184 (a := 0) (b := 62) (by decide +kernel)
theorem dX12_isDigit_8 : decode cX12_isDigit 8 = .ok (.ireturn, 1) := oc_172 (by decide +kernel)
theorem dX12_isLetter_0 : decode cX12_isLetter 0 = .ok (.iload_n 0, 1) := oc_26 (by decide +kernel)
theorem dX12_isLetter_1 : decode cX12_isLetter 1 = .ok (.bipush 97, 2) := oc_16 (a := 97) (by decide +kernel)
theorem dX12_isLetter_3 : decode cX12_isLetter 3 = .ok (.bipush 122, 2) := oc_16 (a := 122) (by decide +kernel)
theorem dX12_isLetter_5 : decode cX12_isLetter 5 = .ok (.invokestatic 62, 3) := oc_184 (a := 0) (b := 62) (by decide +kernel)
theorem dX12_isLetter_8 : decode cX12_isLetter 8 = .ok (.ifCond .ne 14, 3) := oc_154 (a := 0) (b := 14) (by decide +kernel)
theorem dX12_isLetter_22 : decode cX12_isLetter 22 = .ok (.iconst 1, 1) := oc_4 (by decide +kernel)
theorem dX12_isLetter_23 : decode cX12_isLetter 23 = .ok (.goto 4, 3) := oc_167 (a := 0) (b := 4) (by decide +kernel)
theorem dX12_isLetter_27 : decode cX12_isLetter 27 = .ok (.ireturn, 1) := oc_172 (by decide +kernel)
theorem dX12_isLetter_11 : decode cX12_isLetter 11 = .ok (.iload_n 0, 1) := oc_26 (by decide +kernel)
theorem dX12_isLetter_12 : decode cX12_isLetter 12 = .ok (.bipush 65, 2) := oc_16 (a := 65) (by decide +kernel)
theorem dX12_isLetter_14 : decode cX12_isLetter 14 = .ok (.bipush 90, 2) := oc_16 (a := 90) (by decide +kernel)
theorem dX12_isLetter_16 : decode cX12_isLetter 16 = .ok (.invokestatic 62, 3) := oc_184 (a := 0) (b := 62) (by decide +kernel)
theorem dX12_isLetter_19 : decode cX12_isLetter 19 = .ok (.ifCond .eq 7, 3) := oc_153 (a := 0) (b := 7) (by decide +kernel)
theorem dX12_isLetter_26 : decode cX12_isLetter 26 = .ok (.iconst 0, 1) := oc_3 (by decide +kernel)
theorem dX12_see_0 : decode cX12_see 0 = .ok (.iload_n 1, 1) := oc_27 (by decide +kernel)
theorem dX12_see_1 : decode cX12_see 1 = .ok (.aload_n 0, 1) := oc_42 (by decide +kernel)
theorem tw_631 : Cond.fieldLink RX12 127 "RingsUnderModel" "taped" "I" ∈ wsL_law := sg_27 _ (List.mem_of_getElem? (i := 7) rfl)
theorem dX12_see_2 : decode cX12_see 2 = .ok (.getfield 127, 3) := oc_180 (a := 0) (b := 127) (by decide +kernel)
theorem dX12_see_5 : decode cX12_see 5 = .ok (.if_icmp .ge 12, 3) := oc_162 (a := 0) (b := 12) (by decide +kernel)
theorem dX12_see_17 : decode cX12_see 17 = .ok (.iconst (-1), 1) := oc_2 (by decide +kernel)
theorem dX12_see_18 : decode cX12_see 18 = .ok (.ireturn, 1) := oc_172 (by decide +kernel)
theorem dX12_see_8 : decode cX12_see 8 = .ok (.aload_n 0, 1) := oc_42 (by decide +kernel)
theorem tw_179 : Cond.fieldLink RX12 19 "RingsUnderModel" "tape" "[I" ∈ wsL_law := sg_8 _ (List.mem_of_getElem? (i := 11) rfl)
theorem dX12_see_9 : decode cX12_see 9 = .ok (.getfield 19, 3) := oc_180 (a := 0) (b := 19) (by decide +kernel)
theorem dX12_see_12 : decode cX12_see 12 = .ok (.iload_n 1, 1) := oc_27 (by decide +kernel)
theorem dX12_see_13 : decode cX12_see 13 = .ok (.iaload, 1) := oc_46 (by decide +kernel)
theorem dX12_see_14 : decode cX12_see 14 = .ok (.goto 4, 3) := oc_167 (a := 0) (b := 4) (by decide +kernel)
theorem dX12_nextToken_0 : decode cX12_nextToken 0 = .ok (.aload_n 0, 1) := oc_42 (by decide +kernel)
theorem dX12_nextToken_1 : decode cX12_nextToken 1 = .ok (.aload_n 0, 1) := oc_42 (by decide +kernel)
theorem tw_830 : Cond.fieldLink RX12 134 "RingsUnderModel" "at" "I" ∈ wsL_law := sg_35 _ (List.mem_of_getElem? (i := 14) rfl)
theorem dX12_nextToken_2 : decode cX12_nextToken 2 = .ok (.getfield 134, 3) := oc_180 (a := 0) (b := 134) (by decide +kernel)
theorem tw_839 : Cond.methodLink RX12 137 yX12_see ∈ wsL_law := sg_35 _ (List.mem_of_getElem? (i := 23) rfl)
theorem tw_840 : Cond.instanceMethod yX12_see ∈ wsL_law := sg_36 _ (List.mem_of_getElem? (i := 0) rfl)
theorem tw_841 : Cond.selects RX12 yX12_see yX12_see ∈ wsL_law := sg_36 _ (List.mem_of_getElem? (i := 1) rfl)
theorem tw_842 : Cond.code yX12_see cX12_see 2 (some .int) ∈ wsL_law := sg_36 _ (List.mem_of_getElem? (i := 2) rfl)
theorem dX12_nextToken_5 : decode cX12_nextToken 5 = .ok (.invokevirtual 137, 3) := oc_182 (a := 0) (b := 137) (by decide +kernel)
theorem dX12_nextToken_8 : decode cX12_nextToken 8 = .ok (.bipush 32, 2) := oc_16 (a := 32) (by decide +kernel)
theorem dX12_nextToken_10 : decode cX12_nextToken 10 = .ok (.if_icmp .eq 16, 3) := oc_159 (a := 0) (b := 16) (by decide +kernel)
theorem dX12_nextToken_26 : decode cX12_nextToken 26 = .ok (.aload_n 0, 1) := oc_42 (by decide +kernel)
theorem dX12_nextToken_27 : decode cX12_nextToken 27 = .ok (.dup, 1) := oc_89 (by decide +kernel)
theorem dX12_nextToken_28 : decode cX12_nextToken 28 = .ok (.getfield 134, 3) := oc_180 (a := 0) (b := 134) (by decide +kernel)
theorem dX12_nextToken_31 : decode cX12_nextToken 31 = .ok (.iconst 1, 1) := oc_4 (by decide +kernel)
theorem dX12_nextToken_32 : decode cX12_nextToken 32 = .ok (.iadd, 1) := oc_96 (by decide +kernel)
theorem dX12_nextToken_33 : decode cX12_nextToken 33 = .ok (.putfield 134, 3) := oc_181 (a := 0) (b := 134) (by decide +kernel)
theorem dX12_nextToken_36 : decode cX12_nextToken 36 = .ok (.goto (-36), 3) := oc_167 (a := 255) (b := 220) (by decide +kernel)
theorem dX12_nextToken_13 : decode cX12_nextToken 13 = .ok (.aload_n 0, 1) := oc_42 (by decide +kernel)
theorem dX12_nextToken_14 : decode cX12_nextToken 14 = .ok (.aload_n 0, 1) := oc_42 (by decide +kernel)
theorem dX12_nextToken_15 : decode cX12_nextToken 15 = .ok (.getfield 134, 3) := oc_180 (a := 0) (b := 134) (by decide +kernel)
theorem dX12_nextToken_18 : decode cX12_nextToken 18 = .ok (.invokevirtual 137, 3) := oc_182 (a := 0) (b := 137) (by decide +kernel)
theorem dX12_nextToken_21 : decode cX12_nextToken 21 = .ok (.bipush 10, 2) := oc_16 (a := 10) (by decide +kernel)
theorem dX12_nextToken_23 : decode cX12_nextToken 23 = .ok (.if_icmp .ne 16, 3) := oc_160 (a := 0) (b := 16) (by decide +kernel)
theorem dX12_nextToken_39 : decode cX12_nextToken 39 = .ok (.aload_n 0, 1) := oc_42 (by decide +kernel)
theorem dX12_nextToken_40 : decode cX12_nextToken 40 = .ok (.aload_n 0, 1) := oc_42 (by decide +kernel)
theorem dX12_nextToken_41 : decode cX12_nextToken 41 = .ok (.getfield 134, 3) := oc_180 (a := 0) (b := 134) (by decide +kernel)
theorem tw_820 : Cond.fieldLink RX12 140 "RingsUnderModel" "place" "I" ∈ wsL_law := sg_35 _ (List.mem_of_getElem? (i := 4) rfl)
theorem dX12_nextToken_44 : decode cX12_nextToken 44 = .ok (.putfield 140, 3) := oc_181 (a := 0) (b := 140) (by decide +kernel)
theorem dX12_nextToken_47 : decode cX12_nextToken 47 = .ok (.aload_n 0, 1) := oc_42 (by decide +kernel)
theorem dX12_nextToken_48 : decode cX12_nextToken 48 = .ok (.aload_n 0, 1) := oc_42 (by decide +kernel)
theorem dX12_nextToken_49 : decode cX12_nextToken 49 = .ok (.getfield 134, 3) := oc_180 (a := 0) (b := 134) (by decide +kernel)
theorem dX12_nextToken_52 : decode cX12_nextToken 52 = .ok (.invokevirtual 137, 3) := oc_182 (a := 0) (b := 137) (by decide +kernel)
theorem dX12_nextToken_55 : decode cX12_nextToken 55 = .ok (.istore_n 1, 1) := oc_60 (by decide +kernel)
theorem dX12_nextToken_56 : decode cX12_nextToken 56 = .ok (.iload_n 1, 1) := oc_27 (by decide +kernel)
theorem dX12_nextToken_57 : decode cX12_nextToken 57 = .ok (.ifCond .ge 11, 3) := oc_156 (a := 0) (b := 11) (by decide +kernel)
theorem dX12_nextToken_68 : decode cX12_nextToken 68 = .ok (.iload_n 1, 1) := oc_27 (by decide +kernel)
theorem tw_843 : Cond.methodLink RX12 146 yX12_isDigit ∈ wsL_law := sg_36 _ (List.mem_of_getElem? (i := 3) rfl)
theorem tw_844 : Cond.static yX12_isDigit ∈ wsL_law := sg_36 _ (List.mem_of_getElem? (i := 4) rfl)
theorem tw_845 : Cond.code yX12_isDigit cX12_isDigit 1 (some .boolean) ∈ wsL_law := sg_36 _ (List.mem_of_getElem? (i := 5) rfl)
theorem dX12_nextToken_69 : decode cX12_nextToken 69 = .ok (.invokestatic 146, 3) := oc_184 (a := 0) (b := 146) (by decide +kernel)
theorem dX12_nextToken_72 : decode cX12_nextToken 72 = .ok (.ifCond .eq 72, 3) := oc_153 (a := 0) (b := 72) (by decide +kernel)
theorem dX12_nextToken_144 : decode cX12_nextToken 144 = .ok (.iload_n 1, 1) := oc_27 (by decide +kernel)
theorem tw_846 : Cond.methodLink RX12 153 yX12_isLetter ∈ wsL_law := sg_36 _ (List.mem_of_getElem? (i := 6) rfl)
theorem tw_847 : Cond.static yX12_isLetter ∈ wsL_law := sg_36 _ (List.mem_of_getElem? (i := 7) rfl)
theorem tw_848 : Cond.code yX12_isLetter cX12_isLetter 1 (some .boolean) ∈ wsL_law := sg_36 _ (List.mem_of_getElem? (i := 8) rfl)
theorem dX12_nextToken_145 : decode cX12_nextToken 145 = .ok (.invokestatic 153, 3) := oc_184 (a := 0) (b := 153) (by decide +kernel)
theorem dX12_nextToken_148 : decode cX12_nextToken 148 = .ok (.ifCond .eq 97, 3) := oc_153 (a := 0) (b := 97) (by decide +kernel)
theorem dX12_nextToken_245 : decode cX12_nextToken 245 = .ok (.aload_n 0, 1) := oc_42 (by decide +kernel)
theorem dX12_nextToken_246 : decode cX12_nextToken 246 = .ok (.dup, 1) := oc_89 (by decide +kernel)
theorem dX12_nextToken_247 : decode cX12_nextToken 247 = .ok (.getfield 134, 3) := oc_180 (a := 0) (b := 134) (by decide +kernel)
theorem dX12_nextToken_250 : decode cX12_nextToken 250 = .ok (.iconst 1, 1) := oc_4 (by decide +kernel)
theorem dX12_nextToken_251 : decode cX12_nextToken 251 = .ok (.iadd, 1) := oc_96 (by decide +kernel)
theorem dX12_nextToken_252 : decode cX12_nextToken 252 = .ok (.putfield 134, 3) := oc_181 (a := 0) (b := 134) (by decide +kernel)
theorem dX12_nextToken_255 : decode cX12_nextToken 255 = .ok (.iload_n 1, 1) := oc_27 (by decide +kernel)
theorem dX12_nextToken_256 : decode cX12_nextToken 256 = .ok (.bipush 60, 2) := oc_16 (a := 60) (by decide +kernel)
theorem dX12_nextToken_332 : decode cX12_nextToken 332 = .ok (.istore_n 2, 1) := oc_61 (by decide +kernel)
theorem dX12_nextToken_333 : decode cX12_nextToken 333 = .ok (.aload_n 0, 1) := oc_42 (by decide +kernel)
theorem dX12_nextToken_334 : decode cX12_nextToken 334 = .ok (.iload_n 2, 1) := oc_28 (by decide +kernel)
theorem tw_831 : Cond.fieldLink RX12 143 "RingsUnderModel" "token" "I" ∈ wsL_law := sg_35 _ (List.mem_of_getElem? (i := 15) rfl)
theorem dX12_nextToken_343 : decode cX12_nextToken 343 = .ok (.putfield 143, 3) := oc_181 (a := 0) (b := 143) (by decide +kernel)
theorem dX12_nextToken_346 : decode cX12_nextToken 346 = .ok (.iload_n 1, 1) := oc_27 (by decide +kernel)
theorem dX12_nextToken_347 : decode cX12_nextToken 347 = .ok (.bipush 60, 2) := oc_16 (a := 60) (by decide +kernel)
theorem dX12_nextToken_349 : decode cX12_nextToken 349 = .ok (.if_icmp .eq 9, 3) := oc_159 (a := 0) (b := 9) (by decide +kernel)
theorem dX12_nextToken_358 : decode cX12_nextToken 358 = .ok (.aload_n 0, 1) := oc_42 (by decide +kernel)
theorem dX12_nextToken_359 : decode cX12_nextToken 359 = .ok (.aload_n 0, 1) := oc_42 (by decide +kernel)
theorem dX12_nextToken_360 : decode cX12_nextToken 360 = .ok (.getfield 134, 3) := oc_180 (a := 0) (b := 134) (by decide +kernel)
theorem dX12_nextToken_363 : decode cX12_nextToken 363 = .ok (.invokevirtual 137, 3) := oc_182 (a := 0) (b := 137) (by decide +kernel)
theorem dX12_nextToken_366 : decode cX12_nextToken 366 = .ok (.bipush 61, 2) := oc_16 (a := 61) (by decide +kernel)
theorem dX12_nextToken_368 : decode cX12_nextToken 368 = .ok (.if_icmp .ne 28, 3) := oc_160 (a := 0) (b := 28) (by decide +kernel)
theorem dX12_nextToken_396 : decode cX12_nextToken 396 = .ok (.return_, 1) := oc_177 (by decide +kernel)
theorem dX12_nextToken_371 : decode cX12_nextToken 371 = .ok (.aload_n 0, 1) := oc_42 (by decide +kernel)
theorem dX12_nextToken_372 : decode cX12_nextToken 372 = .ok (.dup, 1) := oc_89 (by decide +kernel)
theorem dX12_nextToken_373 : decode cX12_nextToken 373 = .ok (.getfield 134, 3) := oc_180 (a := 0) (b := 134) (by decide +kernel)
theorem dX12_nextToken_376 : decode cX12_nextToken 376 = .ok (.iconst 1, 1) := oc_4 (by decide +kernel)
theorem dX12_nextToken_377 : decode cX12_nextToken 377 = .ok (.iadd, 1) := oc_96 (by decide +kernel)
theorem dX12_nextToken_378 : decode cX12_nextToken 378 = .ok (.putfield 134, 3) := oc_181 (a := 0) (b := 134) (by decide +kernel)
theorem dX12_nextToken_381 : decode cX12_nextToken 381 = .ok (.aload_n 0, 1) := oc_42 (by decide +kernel)
theorem dX12_nextToken_382 : decode cX12_nextToken 382 = .ok (.iload_n 1, 1) := oc_27 (by decide +kernel)
theorem dX12_nextToken_383 : decode cX12_nextToken 383 = .ok (.bipush 60, 2) := oc_16 (a := 60) (by decide +kernel)
theorem dX12_nextToken_385 : decode cX12_nextToken 385 = .ok (.if_icmp .ne 7, 3) := oc_160 (a := 0) (b := 7) (by decide +kernel)
theorem dX12_nextToken_388 : decode cX12_nextToken 388 = .ok (.iconst 4, 1) := oc_7 (by decide +kernel)
theorem dX12_nextToken_389 : decode cX12_nextToken 389 = .ok (.goto 4, 3) := oc_167 (a := 0) (b := 4) (by decide +kernel)
theorem dX12_nextToken_393 : decode cX12_nextToken 393 = .ok (.putfield 143, 3) := oc_181 (a := 0) (b := 143) (by decide +kernel)
theorem dX12_nextToken_352 : decode cX12_nextToken 352 = .ok (.iload_n 1, 1) := oc_27 (by decide +kernel)
theorem dX12_nextToken_353 : decode cX12_nextToken 353 = .ok (.bipush 62, 2) := oc_16 (a := 62) (by decide +kernel)
theorem dX12_nextToken_355 : decode cX12_nextToken 355 = .ok (.if_icmp .ne 41, 3) := oc_160 (a := 0) (b := 41) (by decide +kernel)
theorem dX12_nextToken_392 : decode cX12_nextToken 392 = .ok (.iconst 5, 1) := oc_8 (by decide +kernel)
theorem dX12_nextToken_335 : decode cX12_nextToken 335 = .ok (.ifCond .eq 7, 3) := oc_153 (a := 0) (b := 7) (by decide +kernel)
theorem dX12_nextToken_342 : decode cX12_nextToken 342 = .ok (.iconst 3, 1) := oc_6 (by decide +kernel)
theorem dX12_nextToken_338 : decode cX12_nextToken 338 = .ok (.iload_n 1, 1) := oc_27 (by decide +kernel)
theorem dX12_nextToken_339 : decode cX12_nextToken 339 = .ok (.goto 4, 3) := oc_167 (a := 0) (b := 4) (by decide +kernel)
theorem dX12_nextToken_327 : decode cX12_nextToken 327 = .ok (.iconst 1, 1) := oc_4 (by decide +kernel)
theorem dX12_nextToken_328 : decode cX12_nextToken 328 = .ok (.goto 4, 3) := oc_167 (a := 0) (b := 4) (by decide +kernel)
theorem dX12_nextToken_258 : decode cX12_nextToken 258 = .ok (.if_icmp .eq 69, 3) := oc_159 (a := 0) (b := 69) (by decide +kernel)
theorem dX12_nextToken_261 : decode cX12_nextToken 261 = .ok (.iload_n 1, 1) := oc_27 (by decide +kernel)
theorem dX12_nextToken_262 : decode cX12_nextToken 262 = .ok (.bipush 62, 2) := oc_16 (a := 62) (by decide +kernel)
theorem dX12_nextToken_264 : decode cX12_nextToken 264 = .ok (.if_icmp .eq 63, 3) := oc_159 (a := 0) (b := 63) (by decide +kernel)
theorem dX12_nextToken_267 : decode cX12_nextToken 267 = .ok (.iload_n 1, 1) := oc_27 (by decide +kernel)
theorem dX12_nextToken_268 : decode cX12_nextToken 268 = .ok (.bipush 61, 2) := oc_16 (a := 61) (by decide +kernel)
theorem dX12_nextToken_270 : decode cX12_nextToken 270 = .ok (.if_icmp .eq 57, 3) := oc_159 (a := 0) (b := 57) (by decide +kernel)
theorem dX12_nextToken_273 : decode cX12_nextToken 273 = .ok (.iload_n 1, 1) := oc_27 (by decide +kernel)
theorem dX12_nextToken_274 : decode cX12_nextToken 274 = .ok (.bipush 35, 2) := oc_16 (a := 35) (by decide +kernel)
theorem dX12_nextToken_276 : decode cX12_nextToken 276 = .ok (.if_icmp .eq 51, 3) := oc_159 (a := 0) (b := 51) (by decide +kernel)
theorem dX12_nextToken_279 : decode cX12_nextToken 279 = .ok (.iload_n 1, 1) := oc_27 (by decide +kernel)
theorem dX12_nextToken_280 : decode cX12_nextToken 280 = .ok (.bipush 43, 2) := oc_16 (a := 43) (by decide +kernel)
theorem dX12_nextToken_282 : decode cX12_nextToken 282 = .ok (.if_icmp .eq 45, 3) := oc_159 (a := 0) (b := 45) (by decide +kernel)
theorem dX12_nextToken_285 : decode cX12_nextToken 285 = .ok (.iload_n 1, 1) := oc_27 (by decide +kernel)
theorem dX12_nextToken_286 : decode cX12_nextToken 286 = .ok (.bipush 45, 2) := oc_16 (a := 45) (by decide +kernel)
theorem dX12_nextToken_288 : decode cX12_nextToken 288 = .ok (.if_icmp .eq 39, 3) := oc_159 (a := 0) (b := 39) (by decide +kernel)
theorem dX12_nextToken_291 : decode cX12_nextToken 291 = .ok (.iload_n 1, 1) := oc_27 (by decide +kernel)
theorem dX12_nextToken_292 : decode cX12_nextToken 292 = .ok (.bipush 42, 2) := oc_16 (a := 42) (by decide +kernel)
theorem dX12_nextToken_294 : decode cX12_nextToken 294 = .ok (.if_icmp .eq 33, 3) := oc_159 (a := 0) (b := 33) (by decide +kernel)
theorem dX12_nextToken_297 : decode cX12_nextToken 297 = .ok (.iload_n 1, 1) := oc_27 (by decide +kernel)
theorem dX12_nextToken_298 : decode cX12_nextToken 298 = .ok (.bipush 47, 2) := oc_16 (a := 47) (by decide +kernel)
theorem dX12_nextToken_300 : decode cX12_nextToken 300 = .ok (.if_icmp .eq 27, 3) := oc_159 (a := 0) (b := 27) (by decide +kernel)
theorem dX12_nextToken_303 : decode cX12_nextToken 303 = .ok (.iload_n 1, 1) := oc_27 (by decide +kernel)
theorem dX12_nextToken_304 : decode cX12_nextToken 304 = .ok (.bipush 40, 2) := oc_16 (a := 40) (by decide +kernel)
theorem dX12_nextToken_306 : decode cX12_nextToken 306 = .ok (.if_icmp .eq 21, 3) := oc_159 (a := 0) (b := 21) (by decide +kernel)
theorem dX12_nextToken_309 : decode cX12_nextToken 309 = .ok (.iload_n 1, 1) := oc_27 (by decide +kernel)
theorem dX12_nextToken_310 : decode cX12_nextToken 310 = .ok (.bipush 41, 2) := oc_16 (a := 41) (by decide +kernel)
theorem dX12_nextToken_312 : decode cX12_nextToken 312 = .ok (.if_icmp .eq 15, 3) := oc_159 (a := 0) (b := 15) (by decide +kernel)
theorem dX12_nextToken_315 : decode cX12_nextToken 315 = .ok (.iload_n 1, 1) := oc_27 (by decide +kernel)
theorem dX12_nextToken_316 : decode cX12_nextToken 316 = .ok (.bipush 44, 2) := oc_16 (a := 44) (by decide +kernel)
theorem dX12_nextToken_318 : decode cX12_nextToken 318 = .ok (.if_icmp .eq 9, 3) := oc_159 (a := 0) (b := 9) (by decide +kernel)
theorem dX12_nextToken_321 : decode cX12_nextToken 321 = .ok (.iload_n 1, 1) := oc_27 (by decide +kernel)
theorem dX12_nextToken_322 : decode cX12_nextToken 322 = .ok (.bipush 59, 2) := oc_16 (a := 59) (by decide +kernel)
theorem dX12_nextToken_324 : decode cX12_nextToken 324 = .ok (.if_icmp .ne 7, 3) := oc_160 (a := 0) (b := 7) (by decide +kernel)
theorem dX12_nextToken_331 : decode cX12_nextToken 331 = .ok (.iconst 0, 1) := oc_3 (by decide +kernel)
theorem dX12_nextToken_151 : decode cX12_nextToken 151 = .ok (.aload_n 0, 1) := oc_42 (by decide +kernel)
theorem dX12_nextToken_152 : decode cX12_nextToken 152 = .ok (.iconst 2, 1) := oc_5 (by decide +kernel)
theorem dX12_nextToken_153 : decode cX12_nextToken 153 = .ok (.putfield 143, 3) := oc_181 (a := 0) (b := 143) (by decide +kernel)
theorem dX12_nextToken_156 : decode cX12_nextToken 156 = .ok (.aload_n 0, 1) := oc_42 (by decide +kernel)
theorem dX12_nextToken_157 : decode cX12_nextToken 157 = .ok (.lconst 0, 1) := oc_9 (by decide +kernel)
theorem tw_838 : Cond.fieldLink RX12 156 "RingsUnderModel" "word" "J" ∈ wsL_law := sg_35 _ (List.mem_of_getElem? (i := 22) rfl)
theorem dX12_nextToken_158 : decode cX12_nextToken 158 = .ok (.putfield 156, 3) := oc_181 (a := 0) (b := 156) (by decide +kernel)
theorem dX12_nextToken_161 : decode cX12_nextToken 161 = .ok (.aload_n 0, 1) := oc_42 (by decide +kernel)
theorem dX12_nextToken_162 : decode cX12_nextToken 162 = .ok (.aload_n 0, 1) := oc_42 (by decide +kernel)
theorem dX12_nextToken_163 : decode cX12_nextToken 163 = .ok (.getfield 134, 3) := oc_180 (a := 0) (b := 134) (by decide +kernel)
theorem dX12_nextToken_166 : decode cX12_nextToken 166 = .ok (.invokevirtual 137, 3) := oc_182 (a := 0) (b := 137) (by decide +kernel)
theorem dX12_nextToken_169 : decode cX12_nextToken 169 = .ok (.invokestatic 153, 3) := oc_184 (a := 0) (b := 153) (by decide +kernel)
theorem dX12_nextToken_172 : decode cX12_nextToken 172 = .ok (.ifCond .eq 51, 3) := oc_153 (a := 0) (b := 51) (by decide +kernel)
theorem dX12_nextToken_223 : decode cX12_nextToken 223 = .ok (.aload_n 0, 1) := oc_42 (by decide +kernel)
theorem dX12_nextToken_224 : decode cX12_nextToken 224 = .ok (.getfield 134, 3) := oc_180 (a := 0) (b := 134) (by decide +kernel)
theorem dX12_nextToken_227 : decode cX12_nextToken 227 = .ok (.aload_n 0, 1) := oc_42 (by decide +kernel)
theorem dX12_nextToken_228 : decode cX12_nextToken 228 = .ok (.getfield 140, 3) := oc_180 (a := 0) (b := 140) (by decide +kernel)
theorem dX12_nextToken_231 : decode cX12_nextToken 231 = .ok (.isub, 1) := oc_100 (by decide +kernel)
theorem dX12_nextToken_232 : decode cX12_nextToken 232 = .ok (.bipush 7, 2) := oc_16 (a := 7) (by decide +kernel)
theorem dX12_nextToken_234 : decode cX12_nextToken 234 = .ok (.if_icmp .le 162, 3) := oc_164 (a := 0) (b := 162) (by decide +kernel)
theorem dX12_nextToken_237 : decode cX12_nextToken 237 = .ok (.aload_n 0, 1) := oc_42 (by decide +kernel)
theorem dX12_nextToken_238 : decode cX12_nextToken 238 = .ok (.lconst 0, 1) := oc_9 (by decide +kernel)
theorem dX12_nextToken_239 : decode cX12_nextToken 239 = .ok (.putfield 156, 3) := oc_181 (a := 0) (b := 156) (by decide +kernel)
theorem dX12_nextToken_242 : decode cX12_nextToken 242 = .ok (.goto 154, 3) := oc_167 (a := 0) (b := 154) (by decide +kernel)
theorem dX12_nextToken_175 : decode cX12_nextToken 175 = .ok (.aload_n 0, 1) := oc_42 (by decide +kernel)
theorem dX12_nextToken_176 : decode cX12_nextToken 176 = .ok (.getfield 134, 3) := oc_180 (a := 0) (b := 134) (by decide +kernel)
theorem dX12_nextToken_179 : decode cX12_nextToken 179 = .ok (.aload_n 0, 1) := oc_42 (by decide +kernel)
theorem dX12_nextToken_180 : decode cX12_nextToken 180 = .ok (.getfield 140, 3) := oc_180 (a := 0) (b := 140) (by decide +kernel)
theorem dX12_nextToken_183 : decode cX12_nextToken 183 = .ok (.isub, 1) := oc_100 (by decide +kernel)
theorem dX12_nextToken_184 : decode cX12_nextToken 184 = .ok (.bipush 7, 2) := oc_16 (a := 7) (by decide +kernel)
theorem dX12_nextToken_186 : decode cX12_nextToken 186 = .ok (.if_icmp .ge 24, 3) := oc_162 (a := 0) (b := 24) (by decide +kernel)
theorem dX12_nextToken_210 : decode cX12_nextToken 210 = .ok (.aload_n 0, 1) := oc_42 (by decide +kernel)
theorem dX12_nextToken_211 : decode cX12_nextToken 211 = .ok (.dup, 1) := oc_89 (by decide +kernel)
theorem dX12_nextToken_212 : decode cX12_nextToken 212 = .ok (.getfield 134, 3) := oc_180 (a := 0) (b := 134) (by decide +kernel)
theorem dX12_nextToken_215 : decode cX12_nextToken 215 = .ok (.iconst 1, 1) := oc_4 (by decide +kernel)
theorem dX12_nextToken_216 : decode cX12_nextToken 216 = .ok (.iadd, 1) := oc_96 (by decide +kernel)
theorem dX12_nextToken_217 : decode cX12_nextToken 217 = .ok (.putfield 134, 3) := oc_181 (a := 0) (b := 134) (by decide +kernel)
theorem dX12_nextToken_220 : decode cX12_nextToken 220 = .ok (.goto (-59), 3) := oc_167 (a := 255) (b := 197) (by decide +kernel)
theorem dX12_nextToken_189 : decode cX12_nextToken 189 = .ok (.aload_n 0, 1) := oc_42 (by decide +kernel)
theorem dX12_nextToken_190 : decode cX12_nextToken 190 = .ok (.aload_n 0, 1) := oc_42 (by decide +kernel)
theorem dX12_nextToken_191 : decode cX12_nextToken 191 = .ok (.getfield 156, 3) := oc_180 (a := 0) (b := 156) (by decide +kernel)
theorem dX12_nextToken_194 : decode cX12_nextToken 194 = .ok (.bipush 8, 2) := oc_16 (a := 8) (by decide +kernel)
theorem dX12_nextToken_196 : decode cX12_nextToken 196 = .ok (.lshl, 1) := oc_121 (by decide +kernel)
theorem dX12_nextToken_197 : decode cX12_nextToken 197 = .ok (.aload_n 0, 1) := oc_42 (by decide +kernel)
theorem dX12_nextToken_198 : decode cX12_nextToken 198 = .ok (.aload_n 0, 1) := oc_42 (by decide +kernel)
theorem dX12_nextToken_199 : decode cX12_nextToken 199 = .ok (.getfield 134, 3) := oc_180 (a := 0) (b := 134) (by decide +kernel)
theorem dX12_nextToken_202 : decode cX12_nextToken 202 = .ok (.invokevirtual 137, 3) := oc_182 (a := 0) (b := 137) (by decide +kernel)
theorem dX12_nextToken_205 : decode cX12_nextToken 205 = .ok (.i2l, 1) := oc_133 (by decide +kernel)
theorem dX12_nextToken_206 : decode cX12_nextToken 206 = .ok (.lor, 1) := oc_129 (by decide +kernel)
theorem dX12_nextToken_207 : decode cX12_nextToken 207 = .ok (.putfield 156, 3) := oc_181 (a := 0) (b := 156) (by decide +kernel)
theorem dX12_nextToken_75 : decode cX12_nextToken 75 = .ok (.aload_n 0, 1) := oc_42 (by decide +kernel)
theorem dX12_nextToken_76 : decode cX12_nextToken 76 = .ok (.iconst 1, 1) := oc_4 (by decide +kernel)
theorem dX12_nextToken_77 : decode cX12_nextToken 77 = .ok (.putfield 143, 3) := oc_181 (a := 0) (b := 143) (by decide +kernel)
theorem dX12_nextToken_80 : decode cX12_nextToken 80 = .ok (.aload_n 0, 1) := oc_42 (by decide +kernel)
theorem dX12_nextToken_81 : decode cX12_nextToken 81 = .ok (.iconst 0, 1) := oc_3 (by decide +kernel)
theorem tw_836 : Cond.fieldLink RX12 149 "RingsUnderModel" "number" "I" ∈ wsL_law := sg_35 _ (List.mem_of_getElem? (i := 20) rfl)
theorem dX12_nextToken_82 : decode cX12_nextToken 82 = .ok (.putfield 149, 3) := oc_181 (a := 0) (b := 149) (by decide +kernel)
theorem dX12_nextToken_85 : decode cX12_nextToken 85 = .ok (.aload_n 0, 1) := oc_42 (by decide +kernel)
theorem dX12_nextToken_86 : decode cX12_nextToken 86 = .ok (.aload_n 0, 1) := oc_42 (by decide +kernel)
theorem dX12_nextToken_87 : decode cX12_nextToken 87 = .ok (.getfield 134, 3) := oc_180 (a := 0) (b := 134) (by decide +kernel)
theorem dX12_nextToken_90 : decode cX12_nextToken 90 = .ok (.invokevirtual 137, 3) := oc_182 (a := 0) (b := 137) (by decide +kernel)
theorem dX12_nextToken_93 : decode cX12_nextToken 93 = .ok (.invokestatic 146, 3) := oc_184 (a := 0) (b := 146) (by decide +kernel)
theorem dX12_nextToken_96 : decode cX12_nextToken 96 = .ok (.ifCond .eq 300, 3) := oc_153 (a := 1) (b := 44) (by decide +kernel)
theorem dX12_nextToken_99 : decode cX12_nextToken 99 = .ok (.aload_n 0, 1) := oc_42 (by decide +kernel)
theorem dX12_nextToken_100 : decode cX12_nextToken 100 = .ok (.getfield 149, 3) := oc_180 (a := 0) (b := 149) (by decide +kernel)
theorem tw_837 : Cond.constant RX12 152 (100000) ∈ wsL_law := sg_35 _ (List.mem_of_getElem? (i := 21) rfl)
theorem dX12_nextToken_103 : decode cX12_nextToken 103 = .ok (.ldc 152, 2) := oc_18 (by decide +kernel)
theorem dX12_nextToken_105 : decode cX12_nextToken 105 = .ok (.if_icmp .ge 26, 3) := oc_162 (a := 0) (b := 26) (by decide +kernel)
theorem dX12_nextToken_131 : decode cX12_nextToken 131 = .ok (.aload_n 0, 1) := oc_42 (by decide +kernel)
theorem dX12_nextToken_132 : decode cX12_nextToken 132 = .ok (.dup, 1) := oc_89 (by decide +kernel)
theorem dX12_nextToken_133 : decode cX12_nextToken 133 = .ok (.getfield 134, 3) := oc_180 (a := 0) (b := 134) (by decide +kernel)
theorem dX12_nextToken_136 : decode cX12_nextToken 136 = .ok (.iconst 1, 1) := oc_4 (by decide +kernel)
theorem dX12_nextToken_137 : decode cX12_nextToken 137 = .ok (.iadd, 1) := oc_96 (by decide +kernel)
theorem dX12_nextToken_138 : decode cX12_nextToken 138 = .ok (.putfield 134, 3) := oc_181 (a := 0) (b := 134) (by decide +kernel)
theorem dX12_nextToken_141 : decode cX12_nextToken 141 = .ok (.goto (-56), 3) := oc_167 (a := 255) (b := 200) (by decide +kernel)
theorem dX12_nextToken_108 : decode cX12_nextToken 108 = .ok (.aload_n 0, 1) := oc_42 (by decide +kernel)
theorem dX12_nextToken_109 : decode cX12_nextToken 109 = .ok (.bipush 10, 2) := oc_16 (a := 10) (by decide +kernel)
theorem dX12_nextToken_111 : decode cX12_nextToken 111 = .ok (.aload_n 0, 1) := oc_42 (by decide +kernel)
theorem dX12_nextToken_112 : decode cX12_nextToken 112 = .ok (.getfield 149, 3) := oc_180 (a := 0) (b := 149) (by decide +kernel)
theorem dX12_nextToken_115 : decode cX12_nextToken 115 = .ok (.imul, 1) := oc_104 (by decide +kernel)
theorem dX12_nextToken_116 : decode cX12_nextToken 116 = .ok (.aload_n 0, 1) := oc_42 (by decide +kernel)
theorem dX12_nextToken_117 : decode cX12_nextToken 117 = .ok (.aload_n 0, 1) := oc_42 (by decide +kernel)
theorem dX12_nextToken_118 : decode cX12_nextToken 118 = .ok (.getfield 134, 3) := oc_180 (a := 0) (b := 134) (by decide +kernel)
theorem dX12_nextToken_121 : decode cX12_nextToken 121 = .ok (.invokevirtual 137, 3) := oc_182 (a := 0) (b := 137) (by decide +kernel)
theorem dX12_nextToken_124 : decode cX12_nextToken 124 = .ok (.iadd, 1) := oc_96 (by decide +kernel)
theorem dX12_nextToken_125 : decode cX12_nextToken 125 = .ok (.bipush 48, 2) := oc_16 (a := 48) (by decide +kernel)
theorem dX12_nextToken_127 : decode cX12_nextToken 127 = .ok (.isub, 1) := oc_100 (by decide +kernel)
theorem dX12_nextToken_128 : decode cX12_nextToken 128 = .ok (.putfield 149, 3) := oc_181 (a := 0) (b := 149) (by decide +kernel)
theorem dX12_nextToken_60 : decode cX12_nextToken 60 = .ok (.aload_n 0, 1) := oc_42 (by decide +kernel)
theorem dX12_nextToken_61 : decode cX12_nextToken 61 = .ok (.iconst 0, 1) := oc_3 (by decide +kernel)
theorem dX12_nextToken_62 : decode cX12_nextToken 62 = .ok (.putfield 143, 3) := oc_181 (a := 0) (b := 143) (by decide +kernel)
theorem dX12_nextToken_65 : decode cX12_nextToken 65 = .ok (.goto 331, 3) := oc_167 (a := 1) (b := 75) (by decide +kernel)
set_option maxRecDepth 100000 in
def g_X12_w3_x (a0 : Int32) (a1 : Int32) (a2 : Int32) : Int64 := (ap1 (a0.toInt64) fun (x_1 : Int64) => (ap1 (x_1 <<< ((8 : Int32).toInt64 &&& 63)) fun (x_2 : Int64) => (ap1 (a1.toInt64) fun (x_3 : Int64) => (ap1 (x_2 ||| x_3) fun (x_4 : Int64) => (ap1 (x_4 <<< ((8 : Int32).toInt64 &&& 63)) fun (x_5 : Int64) => (ap1 (a2.toInt64) fun (x_6 : Int64) => (ap1 (x_5 ||| x_6) fun (x_7 : Int64) => x_7)))))))
set_option maxRecDepth 100000 in
theorem g_X12_w3_x_e {a0 : Int32} {a1 : Int32} {a2 : Int32} : g_X12_w3_x a0 a1 a2 = (ap1 (a0.toInt64) fun (x_1 : Int64) => (ap1 (x_1 <<< ((8 : Int32).toInt64 &&& 63)) fun (x_2 : Int64) => (ap1 (a1.toInt64) fun (x_3 : Int64) => (ap1 (x_2 ||| x_3) fun (x_4 : Int64) => (ap1 (x_4 <<< ((8 : Int32).toInt64 &&& 63)) fun (x_5 : Int64) => (ap1 (a2.toInt64) fun (x_6 : Int64) => (ap1 (x_5 ||| x_6) fun (x_7 : Int64) => x_7))))))) := rfl
set_option maxHeartbeats 4000000 in
set_option maxRecDepth 100000 in
theorem s_X12_w3_x (l : Launch) (D : va_G) (t : pq_T) (σ : pq_S) (I : Nat → Nat → Int32) (J : Nat → Nat → Int64) (ri : Nat → Nat → Int32) (rj : Nat → Nat → Int64) (rq : Nat → Nat → Option Nat) (sz : Nat) (tg : Nat → Nat) (hSH : SH σ tg) (hG0 : GT tg I ri) (a0 : Int32) (a1 : Int32) (a2 : Int32) : MetL l yX12_w3 (wa yX12_w3 cX12_w3 3 (some .long)) ({ frames := 0, cells := 0, slots := 0, locals := 0 }) [.int a0, .int a1, .int a2] D t σ (I, J, ri, rj, rq) sz 0 0 (fun (r : Int64) (u : pq_S × pq_M) => u = (σ, I, J, ri, rj, rq) ∧ g_X12_w3_x a0 a1 a2 = r) := by
  refine Met.ofW (cc := cX12_w3) (maxL := 3) (ret := (some .long)) (by decide +kernel) rfl ?_
  intro p e s m args below meth c s₁ B hml hv
  obtain ⟨rfl, hsz, hP, hK, hD0, hN⟩ := hv
  have hx := B.exec
  have hb := B.bytes
  have hr := B.returns
  have hts := atoms_spec (ws := (wa yX12_w3 cX12_w3 3 (some .long))) B.pre
  have hown : s.vm.findClass RX12 = some m.cls := findClass_of_methodNamed B.named
  have hlocks := B.notSynchronized
  subst hsz
  have hD : va_D (pq_B t σ (I, J, ri, rj, rq) s.heap.size) (pq_P t σ (I, J, ri, rj, rq)) := hD0.self
  generalize hAe : pq_B t σ (I, J, ri, rj, rq) s.heap.size = A at hD ⊢
  have hA : ∀ q : Nat, s.heap.size ≤ q → A q := fun q h => by rw [← hAe]; exact Or.inr h
  have hS : va_S A s.heap s.heap [] := va_S.rf
  have hG : GM [] tg σ I ri I ri rq := ⟨hG0, fun _ _ _ => rfl, fun _ _ _ _ _ => rfl, fun _ _ _ _ _ _ => rfl⟩
  have hl := lv_entry ([.int a0, .int a1, .int a2]) (n := 3) (Nat.le_of_ble_eq_true rfl)
  rw [lg_entry_eq]
  generalize (lg_sl ([.int a0, .int a1, .int a2]) ++ List.replicate (3 - (lg_sl ([.int a0, .int a1, .int a2])).length) Slot.unset).toArray = ls at hl ⊢
  have hl : lv_has ls 3 [(0, .int a0), (1, .int a1), (2, .int a2)] := hl
  refine q_gen (fun Q hQ => ?_)
  have go : ∀ (H : Heap) (locs : List Loc) (ls : Array Slot), va_P D vwCl (pq_P t σ (I, J, ri, rj, rq)) H → va_D A (pq_P t σ (I, J, ri, rj, rq)) → va_S A s.heap H locs → lv_has ls 3 [(0, .int a0), (1, .int a1), (2, .int a2)] → W p l e ({ frames := 0, cells := 0, slots := 0, locals := 0 } : Room) s m (List.toArray ([.int a0, .int a1, .int a2] : List Value)) below meth c H locs 0 0 Q (F0 m 0 ls []) := by
    intro H locs ls hP hD hS hl
    obtain ⟨F, hF0⟩ : ∃ F, F = g_X12_w3_x a0 a1 a2 := ⟨_, rfl⟩
    have hF := hF0.trans g_X12_w3_x_e
    refine lv_iload_n hx hb dX12_w3_0 rfl (lv_at hl 0 rfl) ?_
    refine lv_i2l hx hb dX12_w3_1 rfl ?_
    refine lv_topl (fun x_1 ex_1 => ?_)
    replace hF := hF.trans (ap_n ex_1)
    refine lv_bipush (v := 8) hx hb dX12_w3_2 (by decide +kernel) ?_
    refine lv_lshl hx hb dX12_w3_4 rfl ?_
    refine lv_topl (fun x_2 ex_2 => ?_)
    replace hF := hF.trans (ap_n ex_2)
    refine lv_iload_n hx hb dX12_w3_5 rfl (lv_at hl 1 rfl) ?_
    refine lv_i2l hx hb dX12_w3_6 rfl ?_
    refine lv_topl (fun x_3 ex_3 => ?_)
    replace hF := hF.trans (ap_n ex_3)
    refine lv_lor hx hb dX12_w3_7 ?_
    refine lv_topl (fun x_4 ex_4 => ?_)
    replace hF := hF.trans (ap_n ex_4)
    refine lv_bipush (v := 8) hx hb dX12_w3_8 (by decide +kernel) ?_
    refine lv_lshl hx hb dX12_w3_10 rfl ?_
    refine lv_topl (fun x_5 ex_5 => ?_)
    replace hF := hF.trans (ap_n ex_5)
    refine lv_iload_n hx hb dX12_w3_11 rfl (lv_at hl 2 rfl) ?_
    refine lv_i2l hx hb dX12_w3_12 rfl ?_
    refine lv_topl (fun x_6 ex_6 => ?_)
    replace hF := hF.trans (ap_n ex_6)
    refine lv_lor hx hb dX12_w3_13 ?_
    refine lv_topl (fun x_7 ex_7 => ?_)
    replace hF := hF.trans (ap_n ex_7)
    subst hQ
    exact W.lret (v := x_7) hx hb hr (fun t1 ht hW => ⟨⟨x_7, (σ, I, J, ri, rj, rq), rfl, ⟨rfl, (hF0.symm.trans hF)⟩, by rw [ht]; exact hP, va_K.moved hW.alike hK, hD⟩, hS.F ht⟩) hS.2.2 dX12_w3_14
  exact go _ _ _ hP hD hS hl

set_option maxRecDepth 100000 in
def g_X12_w4_x (a0 : Int32) (a1 : Int32) (a2 : Int32) (a3 : Int32) : Int64 := (ap1 (g_X12_w3_x a0 a1 a2) fun (x_1 : Int64) => (ap1 (x_1 <<< ((8 : Int32).toInt64 &&& 63)) fun (x_8 : Int64) => (ap1 (a3.toInt64) fun (x_9 : Int64) => (ap1 (x_8 ||| x_9) fun (x_10 : Int64) => x_10))))
set_option maxRecDepth 100000 in
theorem g_X12_w4_x_e {a0 : Int32} {a1 : Int32} {a2 : Int32} {a3 : Int32} : g_X12_w4_x a0 a1 a2 a3 = (ap1 (g_X12_w3_x a0 a1 a2) fun (x_1 : Int64) => (ap1 (x_1 <<< ((8 : Int32).toInt64 &&& 63)) fun (x_8 : Int64) => (ap1 (a3.toInt64) fun (x_9 : Int64) => (ap1 (x_8 ||| x_9) fun (x_10 : Int64) => x_10)))) := rfl
set_option maxHeartbeats 4000000 in
set_option maxRecDepth 100000 in
theorem s_X12_w4_x (l : Launch) (D : va_G) (t : pq_T) (σ : pq_S) (I : Nat → Nat → Int32) (J : Nat → Nat → Int64) (ri : Nat → Nat → Int32) (rj : Nat → Nat → Int64) (rq : Nat → Nat → Option Nat) (sz : Nat) (tg : Nat → Nat) (hSH : SH σ tg) (hG0 : GT tg I ri) (a0 : Int32) (a1 : Int32) (a2 : Int32) (a3 : Int32) : MetL l yX12_w4 (wa yX12_w4 cX12_w4 4 (some .long)) ({ frames := 1, cells := 0, slots := 0, locals := 22 }) [.int a0, .int a1, .int a2, .int a3] D t σ (I, J, ri, rj, rq) sz 0 0 (fun (r : Int64) (u : pq_S × pq_M) => u = (σ, I, J, ri, rj, rq) ∧ g_X12_w4_x a0 a1 a2 a3 = r) := by
  refine Met.ofW (cc := cX12_w4) (maxL := 4) (ret := (some .long)) (by decide +kernel) rfl ?_
  intro p e s m args below meth c s₁ B hml hv
  obtain ⟨rfl, hsz, hP, hK, hD0, hN⟩ := hv
  have hx := B.exec
  have hb := B.bytes
  have hr := B.returns
  have hts := atoms_spec (ws := (wa yX12_w4 cX12_w4 4 (some .long))) B.pre
  have hown : s.vm.findClass RX12 = some m.cls := findClass_of_methodNamed B.named
  have hlocks := B.notSynchronized
  subst hsz
  have hD : va_D (pq_B t σ (I, J, ri, rj, rq) s.heap.size) (pq_P t σ (I, J, ri, rj, rq)) := hD0.self
  generalize hAe : pq_B t σ (I, J, ri, rj, rq) s.heap.size = A at hD ⊢
  have hA : ∀ q : Nat, s.heap.size ≤ q → A q := fun q h => by rw [← hAe]; exact Or.inr h
  have hS : va_S A s.heap s.heap [] := va_S.rf
  have hG : GM [] tg σ I ri I ri rq := ⟨hG0, fun _ _ _ => rfl, fun _ _ _ _ _ => rfl, fun _ _ _ _ _ _ => rfl⟩
  have hl := lv_entry ([.int a0, .int a1, .int a2, .int a3]) (n := 4) (Nat.le_of_ble_eq_true rfl)
  rw [lg_entry_eq]
  generalize (lg_sl ([.int a0, .int a1, .int a2, .int a3]) ++ List.replicate (4 - (lg_sl ([.int a0, .int a1, .int a2, .int a3])).length) Slot.unset).toArray = ls at hl ⊢
  have hl : lv_has ls 4 [(0, .int a0), (1, .int a1), (2, .int a2), (3, .int a3)] := hl
  refine q_gen (fun Q hQ => ?_)
  have go : ∀ (H : Heap) (locs : List Loc) (ls : Array Slot), va_P D vwCl (pq_P t σ (I, J, ri, rj, rq)) H → va_D A (pq_P t σ (I, J, ri, rj, rq)) → va_S A s.heap H locs → lv_has ls 4 [(0, .int a0), (1, .int a1), (2, .int a2), (3, .int a3)] → W p l e ({ frames := 1, cells := 0, slots := 0, locals := 22 } : Room) s m (List.toArray ([.int a0, .int a1, .int a2, .int a3] : List Value)) below meth c H locs 0 0 Q (F0 m 0 ls []) := by
    intro H locs ls hP hD hS hl
    obtain ⟨F, hF0⟩ : ∃ F, F = g_X12_w4_x a0 a1 a2 a3 := ⟨_, rfl⟩
    have hF := hF0.trans g_X12_w4_x_e
    refine lv_iload_n hx hb dX12_w4_0 rfl (lv_at hl 0 rfl) ?_
    refine lv_iload_n hx hb dX12_w4_1 rfl (lv_at hl 1 rfl) ?_
    refine lv_iload_n hx hb dX12_w4_2 rfl (lv_at hl 2 rfl) ?_
    refine pk_l (va_runS (As := [.int a0, .int a1, .int a2]) (rest := []) ⟨hx, hb, hml, hown, hts⟩ (s_X12_w3_x l D t σ I J ri rj rq H.size tg hSH hG.1 a0 a1 a2) (va_cwS 3 hts (tw_S tw_864 tw_865 tw_5 tw_866) rfl rfl rfl cd_yX12_w3_3 ⟨Nat.le_of_ble_eq_true rfl, Nat.le_of_ble_eq_true rfl⟩) ⟨pq_blind, pq_pre hK hN hP hD⟩ rfl rfl hl.1 rfl (lv_room (Nat.le_of_ble_eq_true rfl)) dX12_w4_3 ⟨Nat.le_of_ble_eq_true rfl, Nat.le_of_ble_eq_true rfl⟩) hD hS hA (fun x_1 σ1 μ1 H locs hw_2 hP hD hS => ?_)
    obtain ⟨hu_3, hfn_6⟩ := hw_2
    obtain ⟨hu_3a, hu_3b⟩ := Prod.mk.inj hu_3
    rw [hu_3a, hu_3b] at hP hD
    replace hF := hF.trans (ap_n hfn_6.symm)
    refine lv_bipush (v := 8) hx hb dX12_w4_6 (by decide +kernel) ?_
    refine lv_lshl hx hb dX12_w4_8 rfl ?_
    refine lv_topl (fun x_8 ex_8 => ?_)
    replace hF := hF.trans (ap_n ex_8)
    refine lv_iload_n hx hb dX12_w4_9 rfl (lv_at hl 3 rfl) ?_
    refine lv_i2l hx hb dX12_w4_10 rfl ?_
    refine lv_topl (fun x_9 ex_9 => ?_)
    replace hF := hF.trans (ap_n ex_9)
    refine lv_lor hx hb dX12_w4_11 ?_
    refine lv_topl (fun x_10 ex_10 => ?_)
    replace hF := hF.trans (ap_n ex_10)
    subst hQ
    exact W.lret (v := x_10) hx hb hr (fun t1 ht hW => ⟨⟨x_10, (σ, I, J, ri, rj, rq), rfl, ⟨rfl, (hF0.symm.trans hF)⟩, by rw [ht]; exact hP, va_K.moved hW.alike hK, hD⟩, hS.F ht⟩) hS.2.2 dX12_w4_12
  exact go _ _ _ hP hD hS hl

set_option maxRecDepth 100000 in
def g_X12_w5_x (a0 : Int32) (a1 : Int32) (a2 : Int32) (a3 : Int32) (a4 : Int32) : Int64 := (ap1 (g_X12_w4_x a0 a1 a2 a3) fun (x_1 : Int64) => (ap1 (x_1 <<< ((8 : Int32).toInt64 &&& 63)) fun (x_8 : Int64) => (ap1 (a4.toInt64) fun (x_9 : Int64) => (ap1 (x_8 ||| x_9) fun (x_10 : Int64) => x_10))))
set_option maxRecDepth 100000 in
theorem g_X12_w5_x_e {a0 : Int32} {a1 : Int32} {a2 : Int32} {a3 : Int32} {a4 : Int32} : g_X12_w5_x a0 a1 a2 a3 a4 = (ap1 (g_X12_w4_x a0 a1 a2 a3) fun (x_1 : Int64) => (ap1 (x_1 <<< ((8 : Int32).toInt64 &&& 63)) fun (x_8 : Int64) => (ap1 (a4.toInt64) fun (x_9 : Int64) => (ap1 (x_8 ||| x_9) fun (x_10 : Int64) => x_10)))) := rfl
set_option maxHeartbeats 4000000 in
set_option maxRecDepth 100000 in
theorem s_X12_w5_x (l : Launch) (D : va_G) (t : pq_T) (σ : pq_S) (I : Nat → Nat → Int32) (J : Nat → Nat → Int64) (ri : Nat → Nat → Int32) (rj : Nat → Nat → Int64) (rq : Nat → Nat → Option Nat) (sz : Nat) (tg : Nat → Nat) (hSH : SH σ tg) (hG0 : GT tg I ri) (a0 : Int32) (a1 : Int32) (a2 : Int32) (a3 : Int32) (a4 : Int32) : MetL l yX12_w5 (wa yX12_w5 cX12_w5 5 (some .long)) ({ frames := 2, cells := 0, slots := 0, locals := 45 }) [.int a0, .int a1, .int a2, .int a3, .int a4] D t σ (I, J, ri, rj, rq) sz 0 0 (fun (r : Int64) (u : pq_S × pq_M) => u = (σ, I, J, ri, rj, rq) ∧ g_X12_w5_x a0 a1 a2 a3 a4 = r) := by
  refine Met.ofW (cc := cX12_w5) (maxL := 5) (ret := (some .long)) (by decide +kernel) rfl ?_
  intro p e s m args below meth c s₁ B hml hv
  obtain ⟨rfl, hsz, hP, hK, hD0, hN⟩ := hv
  have hx := B.exec
  have hb := B.bytes
  have hr := B.returns
  have hts := atoms_spec (ws := (wa yX12_w5 cX12_w5 5 (some .long))) B.pre
  have hown : s.vm.findClass RX12 = some m.cls := findClass_of_methodNamed B.named
  have hlocks := B.notSynchronized
  subst hsz
  have hD : va_D (pq_B t σ (I, J, ri, rj, rq) s.heap.size) (pq_P t σ (I, J, ri, rj, rq)) := hD0.self
  generalize hAe : pq_B t σ (I, J, ri, rj, rq) s.heap.size = A at hD ⊢
  have hA : ∀ q : Nat, s.heap.size ≤ q → A q := fun q h => by rw [← hAe]; exact Or.inr h
  have hS : va_S A s.heap s.heap [] := va_S.rf
  have hG : GM [] tg σ I ri I ri rq := ⟨hG0, fun _ _ _ => rfl, fun _ _ _ _ _ => rfl, fun _ _ _ _ _ _ => rfl⟩
  have hl := lv_entry ([.int a0, .int a1, .int a2, .int a3, .int a4]) (n := 5) (Nat.le_of_ble_eq_true rfl)
  rw [lg_entry_eq]
  generalize (lg_sl ([.int a0, .int a1, .int a2, .int a3, .int a4]) ++ List.replicate (5 - (lg_sl ([.int a0, .int a1, .int a2, .int a3, .int a4])).length) Slot.unset).toArray = ls at hl ⊢
  have hl : lv_has ls 5 [(0, .int a0), (1, .int a1), (2, .int a2), (3, .int a3), (4, .int a4)] := hl
  refine q_gen (fun Q hQ => ?_)
  have go : ∀ (H : Heap) (locs : List Loc) (ls : Array Slot), va_P D vwCl (pq_P t σ (I, J, ri, rj, rq)) H → va_D A (pq_P t σ (I, J, ri, rj, rq)) → va_S A s.heap H locs → lv_has ls 5 [(0, .int a0), (1, .int a1), (2, .int a2), (3, .int a3), (4, .int a4)] → W p l e ({ frames := 2, cells := 0, slots := 0, locals := 45 } : Room) s m (List.toArray ([.int a0, .int a1, .int a2, .int a3, .int a4] : List Value)) below meth c H locs 0 0 Q (F0 m 0 ls []) := by
    intro H locs ls hP hD hS hl
    obtain ⟨F, hF0⟩ : ∃ F, F = g_X12_w5_x a0 a1 a2 a3 a4 := ⟨_, rfl⟩
    have hF := hF0.trans g_X12_w5_x_e
    refine lv_iload_n hx hb dX12_w5_0 rfl (lv_at hl 0 rfl) ?_
    refine lv_iload_n hx hb dX12_w5_1 rfl (lv_at hl 1 rfl) ?_
    refine lv_iload_n hx hb dX12_w5_2 rfl (lv_at hl 2 rfl) ?_
    refine lv_iload_n hx hb dX12_w5_3 rfl (lv_at hl 3 rfl) ?_
    refine pk_l (va_runS (As := [.int a0, .int a1, .int a2, .int a3]) (rest := []) ⟨hx, hb, hml, hown, hts⟩ (s_X12_w4_x l D t σ I J ri rj rq H.size tg hSH hG.1 a0 a1 a2 a3) (va_cwS 4 hts (tw_S tw_861 tw_862 tw_5 tw_863) rfl rfl rfl cd_yX12_w4_4 ⟨Nat.le_of_ble_eq_true rfl, Nat.le_of_ble_eq_true rfl⟩) ⟨pq_blind, pq_pre hK hN hP hD⟩ rfl rfl hl.1 rfl (lv_room (Nat.le_of_ble_eq_true rfl)) dX12_w5_4 ⟨Nat.le_of_ble_eq_true rfl, Nat.le_of_ble_eq_true rfl⟩) hD hS hA (fun x_1 σ1 μ1 H locs hw_2 hP hD hS => ?_)
    obtain ⟨hu_3, hfn_6⟩ := hw_2
    obtain ⟨hu_3a, hu_3b⟩ := Prod.mk.inj hu_3
    rw [hu_3a, hu_3b] at hP hD
    replace hF := hF.trans (ap_n hfn_6.symm)
    refine lv_bipush (v := 8) hx hb dX12_w5_7 (by decide +kernel) ?_
    refine lv_lshl hx hb dX12_w5_9 rfl ?_
    refine lv_topl (fun x_8 ex_8 => ?_)
    replace hF := hF.trans (ap_n ex_8)
    refine lv_iload hx hb dX12_w5_10 (lv_at hl 4 rfl) ?_
    refine lv_i2l hx hb dX12_w5_12 rfl ?_
    refine lv_topl (fun x_9 ex_9 => ?_)
    replace hF := hF.trans (ap_n ex_9)
    refine lv_lor hx hb dX12_w5_13 ?_
    refine lv_topl (fun x_10 ex_10 => ?_)
    replace hF := hF.trans (ap_n ex_10)
    subst hQ
    exact W.lret (v := x_10) hx hb hr (fun t1 ht hW => ⟨⟨x_10, (σ, I, J, ri, rj, rq), rfl, ⟨rfl, (hF0.symm.trans hF)⟩, by rw [ht]; exact hP, va_K.moved hW.alike hK, hD⟩, hS.F ht⟩) hS.2.2 dX12_w5_14
  exact go _ _ _ hP hD hS hl

set_option maxRecDepth 100000 in
def g_X12_w6_x (a0 : Int32) (a1 : Int32) (a2 : Int32) (a3 : Int32) (a4 : Int32) (a5 : Int32) : Int64 := (ap1 (g_X12_w5_x a0 a1 a2 a3 a4) fun (x_1 : Int64) => (ap1 (x_1 <<< ((8 : Int32).toInt64 &&& 63)) fun (x_8 : Int64) => (ap1 (a5.toInt64) fun (x_9 : Int64) => (ap1 (x_8 ||| x_9) fun (x_10 : Int64) => x_10))))
set_option maxRecDepth 100000 in
theorem g_X12_w6_x_e {a0 : Int32} {a1 : Int32} {a2 : Int32} {a3 : Int32} {a4 : Int32} {a5 : Int32} : g_X12_w6_x a0 a1 a2 a3 a4 a5 = (ap1 (g_X12_w5_x a0 a1 a2 a3 a4) fun (x_1 : Int64) => (ap1 (x_1 <<< ((8 : Int32).toInt64 &&& 63)) fun (x_8 : Int64) => (ap1 (a5.toInt64) fun (x_9 : Int64) => (ap1 (x_8 ||| x_9) fun (x_10 : Int64) => x_10)))) := rfl
set_option maxHeartbeats 4000000 in
set_option maxRecDepth 100000 in
theorem s_X12_w6_x (l : Launch) (D : va_G) (t : pq_T) (σ : pq_S) (I : Nat → Nat → Int32) (J : Nat → Nat → Int64) (ri : Nat → Nat → Int32) (rj : Nat → Nat → Int64) (rq : Nat → Nat → Option Nat) (sz : Nat) (tg : Nat → Nat) (hSH : SH σ tg) (hG0 : GT tg I ri) (a0 : Int32) (a1 : Int32) (a2 : Int32) (a3 : Int32) (a4 : Int32) (a5 : Int32) : MetL l yX12_w6 (wa yX12_w6 cX12_w6 6 (some .long)) ({ frames := 3, cells := 0, slots := 0, locals := 69 }) [.int a0, .int a1, .int a2, .int a3, .int a4, .int a5] D t σ (I, J, ri, rj, rq) sz 0 0 (fun (r : Int64) (u : pq_S × pq_M) => u = (σ, I, J, ri, rj, rq) ∧ g_X12_w6_x a0 a1 a2 a3 a4 a5 = r) := by
  refine Met.ofW (cc := cX12_w6) (maxL := 6) (ret := (some .long)) (by decide +kernel) rfl ?_
  intro p e s m args below meth c s₁ B hml hv
  obtain ⟨rfl, hsz, hP, hK, hD0, hN⟩ := hv
  have hx := B.exec
  have hb := B.bytes
  have hr := B.returns
  have hts := atoms_spec (ws := (wa yX12_w6 cX12_w6 6 (some .long))) B.pre
  have hown : s.vm.findClass RX12 = some m.cls := findClass_of_methodNamed B.named
  have hlocks := B.notSynchronized
  subst hsz
  have hD : va_D (pq_B t σ (I, J, ri, rj, rq) s.heap.size) (pq_P t σ (I, J, ri, rj, rq)) := hD0.self
  generalize hAe : pq_B t σ (I, J, ri, rj, rq) s.heap.size = A at hD ⊢
  have hA : ∀ q : Nat, s.heap.size ≤ q → A q := fun q h => by rw [← hAe]; exact Or.inr h
  have hS : va_S A s.heap s.heap [] := va_S.rf
  have hG : GM [] tg σ I ri I ri rq := ⟨hG0, fun _ _ _ => rfl, fun _ _ _ _ _ => rfl, fun _ _ _ _ _ _ => rfl⟩
  have hl := lv_entry ([.int a0, .int a1, .int a2, .int a3, .int a4, .int a5]) (n := 6) (Nat.le_of_ble_eq_true rfl)
  rw [lg_entry_eq]
  generalize (lg_sl ([.int a0, .int a1, .int a2, .int a3, .int a4, .int a5]) ++ List.replicate (6 - (lg_sl ([.int a0, .int a1, .int a2, .int a3, .int a4, .int a5])).length) Slot.unset).toArray = ls at hl ⊢
  have hl : lv_has ls 6 [(0, .int a0), (1, .int a1), (2, .int a2), (3, .int a3), (4, .int a4), (5, .int a5)] := hl
  refine q_gen (fun Q hQ => ?_)
  have go : ∀ (H : Heap) (locs : List Loc) (ls : Array Slot), va_P D vwCl (pq_P t σ (I, J, ri, rj, rq)) H → va_D A (pq_P t σ (I, J, ri, rj, rq)) → va_S A s.heap H locs → lv_has ls 6 [(0, .int a0), (1, .int a1), (2, .int a2), (3, .int a3), (4, .int a4), (5, .int a5)] → W p l e ({ frames := 3, cells := 0, slots := 0, locals := 69 } : Room) s m (List.toArray ([.int a0, .int a1, .int a2, .int a3, .int a4, .int a5] : List Value)) below meth c H locs 0 0 Q (F0 m 0 ls []) := by
    intro H locs ls hP hD hS hl
    obtain ⟨F, hF0⟩ : ∃ F, F = g_X12_w6_x a0 a1 a2 a3 a4 a5 := ⟨_, rfl⟩
    have hF := hF0.trans g_X12_w6_x_e
    refine lv_iload_n hx hb dX12_w6_0 rfl (lv_at hl 0 rfl) ?_
    refine lv_iload_n hx hb dX12_w6_1 rfl (lv_at hl 1 rfl) ?_
    refine lv_iload_n hx hb dX12_w6_2 rfl (lv_at hl 2 rfl) ?_
    refine lv_iload_n hx hb dX12_w6_3 rfl (lv_at hl 3 rfl) ?_
    refine lv_iload hx hb dX12_w6_4 (lv_at hl 4 rfl) ?_
    refine pk_l (va_runS (As := [.int a0, .int a1, .int a2, .int a3, .int a4]) (rest := []) ⟨hx, hb, hml, hown, hts⟩ (s_X12_w5_x l D t σ I J ri rj rq H.size tg hSH hG.1 a0 a1 a2 a3 a4) (va_cwS 5 hts (tw_S tw_858 tw_859 tw_5 tw_860) rfl rfl rfl cd_yX12_w5_5 ⟨Nat.le_of_ble_eq_true rfl, Nat.le_of_ble_eq_true rfl⟩) ⟨pq_blind, pq_pre hK hN hP hD⟩ rfl rfl hl.1 rfl (lv_room (Nat.le_of_ble_eq_true rfl)) dX12_w6_6 ⟨Nat.le_of_ble_eq_true rfl, Nat.le_of_ble_eq_true rfl⟩) hD hS hA (fun x_1 σ1 μ1 H locs hw_2 hP hD hS => ?_)
    obtain ⟨hu_3, hfn_6⟩ := hw_2
    obtain ⟨hu_3a, hu_3b⟩ := Prod.mk.inj hu_3
    rw [hu_3a, hu_3b] at hP hD
    replace hF := hF.trans (ap_n hfn_6.symm)
    refine lv_bipush (v := 8) hx hb dX12_w6_9 (by decide +kernel) ?_
    refine lv_lshl hx hb dX12_w6_11 rfl ?_
    refine lv_topl (fun x_8 ex_8 => ?_)
    replace hF := hF.trans (ap_n ex_8)
    refine lv_iload hx hb dX12_w6_12 (lv_at hl 5 rfl) ?_
    refine lv_i2l hx hb dX12_w6_14 rfl ?_
    refine lv_topl (fun x_9 ex_9 => ?_)
    replace hF := hF.trans (ap_n ex_9)
    refine lv_lor hx hb dX12_w6_15 ?_
    refine lv_topl (fun x_10 ex_10 => ?_)
    replace hF := hF.trans (ap_n ex_10)
    subst hQ
    exact W.lret (v := x_10) hx hb hr (fun t1 ht hW => ⟨⟨x_10, (σ, I, J, ri, rj, rq), rfl, ⟨rfl, (hF0.symm.trans hF)⟩, by rw [ht]; exact hP, va_K.moved hW.alike hK, hD⟩, hS.F ht⟩) hS.2.2 dX12_w6_16
  exact go _ _ _ hP hD hS hl

set_option maxRecDepth 100000 in
def g_X12_isIn_x (a0 : Int32) (a1 : Int32) (a2 : Int32) : Int32 := (if a0 < a1 then (0 : Int32) else (if a2 < a0 then (0 : Int32) else (1 : Int32)))
set_option maxRecDepth 100000 in
theorem g_X12_isIn_x_e {a0 : Int32} {a1 : Int32} {a2 : Int32} : g_X12_isIn_x a0 a1 a2 = (if a0 < a1 then (0 : Int32) else (if a2 < a0 then (0 : Int32) else (1 : Int32))) := rfl
set_option maxHeartbeats 4000000 in
set_option maxRecDepth 100000 in
theorem s_X12_isIn_x (l : Launch) (D : va_G) (t : pq_T) (σ : pq_S) (I : Nat → Nat → Int32) (J : Nat → Nat → Int64) (ri : Nat → Nat → Int32) (rj : Nat → Nat → Int64) (rq : Nat → Nat → Option Nat) (sz : Nat) (tg : Nat → Nat) (hSH : SH σ tg) (hG0 : GT tg I ri) (a0 : Int32) (a1 : Int32) (a2 : Int32) : MetI l yX12_isIn (wa yX12_isIn cX12_isIn 3 (some .boolean)) ({ frames := 0, cells := 0, slots := 0, locals := 0 }) [.int a0, .int a1, .int a2] D t σ (I, J, ri, rj, rq) sz 0 0 (fun (r : Int32) (u : pq_S × pq_M) => u = (σ, I, J, ri, rj, rq) ∧ g_X12_isIn_x a0 a1 a2 = r ∧ ((r = 1 ∧ a1 ≤ a0 ∧ a0 ≤ a2) ∨ (r = 0 ∧ (a0.toInt < a1.toInt ∨ a2.toInt < a0.toInt)))) := by
  refine Met.ofW (cc := cX12_isIn) (maxL := 3) (ret := (some .boolean)) (by decide +kernel) rfl ?_
  intro p e s m args below meth c s₁ B hml hv
  obtain ⟨rfl, hsz, hP, hK, hD0, hN⟩ := hv
  have hx := B.exec
  have hb := B.bytes
  have hr := B.returns
  have hts := atoms_spec (ws := (wa yX12_isIn cX12_isIn 3 (some .boolean))) B.pre
  have hown : s.vm.findClass RX12 = some m.cls := findClass_of_methodNamed B.named
  have hlocks := B.notSynchronized
  subst hsz
  have hD : va_D (pq_B t σ (I, J, ri, rj, rq) s.heap.size) (pq_P t σ (I, J, ri, rj, rq)) := hD0.self
  generalize hAe : pq_B t σ (I, J, ri, rj, rq) s.heap.size = A at hD ⊢
  have hA : ∀ q : Nat, s.heap.size ≤ q → A q := fun q h => by rw [← hAe]; exact Or.inr h
  have hS : va_S A s.heap s.heap [] := va_S.rf
  have hG : GM [] tg σ I ri I ri rq := ⟨hG0, fun _ _ _ => rfl, fun _ _ _ _ _ => rfl, fun _ _ _ _ _ _ => rfl⟩
  have hl := lv_entry ([.int a0, .int a1, .int a2]) (n := 3) (Nat.le_of_ble_eq_true rfl)
  rw [lg_entry_eq]
  generalize (lg_sl ([.int a0, .int a1, .int a2]) ++ List.replicate (3 - (lg_sl ([.int a0, .int a1, .int a2])).length) Slot.unset).toArray = ls at hl ⊢
  have hl : lv_has ls 3 [(0, .int a0), (1, .int a1), (2, .int a2)] := hl
  refine q_gen (fun Q hQ => ?_)
  have go : ∀ (H : Heap) (locs : List Loc) (ls : Array Slot), va_P D vwCl (pq_P t σ (I, J, ri, rj, rq)) H → va_D A (pq_P t σ (I, J, ri, rj, rq)) → va_S A s.heap H locs → lv_has ls 3 [(0, .int a0), (1, .int a1), (2, .int a2)] → W p l e ({ frames := 0, cells := 0, slots := 0, locals := 0 } : Room) s m (List.toArray ([.int a0, .int a1, .int a2] : List Value)) below meth c H locs 0 0 Q (F0 m 0 ls []) := by
    intro H locs ls hP hD hS hl
    obtain ⟨F, hF0⟩ : ∃ F, F = g_X12_isIn_x a0 a1 a2 := ⟨_, rfl⟩
    have hF := hF0.trans g_X12_isIn_x_e
    refine lv_iload_n hx hb dX12_isIn_0 rfl (lv_at hl 0 rfl) ?_
    refine lv_iload_n hx hb dX12_isIn_1 rfl (lv_at hl 1 rfl) ?_
    refine lv_icmp_lt (tgt := 14) hx hb dX12_isIn_2 (by decide +kernel) (fun c_1 => ?_) (fun c_1 => ?_)
    · replace hF := hF.trans (if_pos c_1)
      have tc_6 : (a0).toInt < (a1).toInt := Int32.lt_iff_toInt_lt.mp c_1
      have h_7 : rg a0 (-2147483648) 2147483646 := rg_lt1 c_1 (rg_full _) (rg_full _) (by decide +kernel)
      have uh_7 := h_7.1
      have vh_7 := h_7.2
      have h_8 : rg a1 (-2147483647) 2147483647 := rg_lt2 c_1 (rg_full _) (rg_full _) (by decide +kernel)
      have uh_8 := h_8.1
      have vh_8 := h_8.2
      refine lv_iconst (v := 0) hx hb dX12_isIn_14 (by decide +kernel) ?_
      subst hQ
      exact W.zret (v := 0) hx hb hr (by decide +kernel) (fun t1 ht hW => ⟨⟨0, (σ, I, J, ri, rj, rq), rfl, ⟨rfl, (hF0.symm.trans hF), (Or.inr ⟨rfl, (by omega)⟩)⟩, by rw [ht]; exact hP, va_K.moved hW.alike hK, hD⟩, hS.F ht⟩) hS.2.2 dX12_isIn_15
    · replace hF := hF.trans (if_neg c_1)
      have tc_9 : (a1).toInt ≤ (a0).toInt := Int32.le_iff_toInt_le.mp (nlt c_1)
      refine lv_iload_n hx hb dX12_isIn_5 rfl (lv_at hl 0 rfl) ?_
      refine lv_iload_n hx hb dX12_isIn_6 rfl (lv_at hl 2 rfl) ?_
      refine lv_icmp_gt (tgt := 14) hx hb dX12_isIn_7 (by decide +kernel) (fun c_10 => ?_) (fun c_10 => ?_)
      · replace hF := hF.trans (if_pos c_10)
        have tc_15 : (a2).toInt < (a0).toInt := Int32.lt_iff_toInt_lt.mp c_10
        have h_16 : rg a2 (-2147483648) 2147483646 := rg_lt1 c_10 (rg_full _) (rg_full _) (by decide +kernel)
        have uh_16 := h_16.1
        have vh_16 := h_16.2
        have h_17 : rg a0 (-2147483647) 2147483647 := rg_lt2 c_10 (rg_full _) (rg_full _) (by decide +kernel)
        have uh_17 := h_17.1
        have vh_17 := h_17.2
        refine lv_iconst (v := 0) hx hb dX12_isIn_14 (by decide +kernel) ?_
        subst hQ
        exact W.zret (v := 0) hx hb hr (by decide +kernel) (fun t1 ht hW => ⟨⟨0, (σ, I, J, ri, rj, rq), rfl, ⟨rfl, (hF0.symm.trans hF), (Or.inr ⟨rfl, (by omega)⟩)⟩, by rw [ht]; exact hP, va_K.moved hW.alike hK, hD⟩, hS.F ht⟩) hS.2.2 dX12_isIn_15
      · replace hF := hF.trans (if_neg c_10)
        have tc_18 : (a0).toInt ≤ (a2).toInt := Int32.le_iff_toInt_le.mp (nlt c_10)
        refine lv_iconst (v := 1) hx hb dX12_isIn_10 (by decide +kernel) ?_
        refine lv_goto (tgt := 15) hx hb dX12_isIn_11 (by decide +kernel) ?_
        subst hQ
        exact W.zret (v := 1) hx hb hr (by decide +kernel) (fun t1 ht hW => ⟨⟨1, (σ, I, J, ri, rj, rq), rfl, ⟨rfl, (hF0.symm.trans hF), (Or.inl ⟨rfl, (nlt c_1), (nlt c_10)⟩)⟩, by rw [ht]; exact hP, va_K.moved hW.alike hK, hD⟩, hS.F ht⟩) hS.2.2 dX12_isIn_15
  exact go _ _ _ hP hD hS hl

set_option maxRecDepth 100000 in
def g_X12_isDigit_x (a0 : Int32) : Int32 := (ap1 (g_X12_isIn_x a0 (48 : Int32) (57 : Int32)) fun (x_1 : Int32) => x_1)
set_option maxRecDepth 100000 in
theorem g_X12_isDigit_x_e {a0 : Int32} : g_X12_isDigit_x a0 = (ap1 (g_X12_isIn_x a0 (48 : Int32) (57 : Int32)) fun (x_1 : Int32) => x_1) := rfl
set_option maxHeartbeats 4000000 in
set_option maxRecDepth 100000 in
theorem s_X12_isDigit_x (l : Launch) (D : va_G) (t : pq_T) (σ : pq_S) (I : Nat → Nat → Int32) (J : Nat → Nat → Int64) (ri : Nat → Nat → Int32) (rj : Nat → Nat → Int64) (rq : Nat → Nat → Option Nat) (sz : Nat) (tg : Nat → Nat) (hSH : SH σ tg) (hG0 : GT tg I ri) (a0 : Int32) : MetI l yX12_isDigit (wa yX12_isDigit cX12_isDigit 1 (some .boolean)) ({ frames := 1, cells := 0, slots := 0, locals := 22 }) [.int a0] D t σ (I, J, ri, rj, rq) sz 0 0 (fun (r : Int32) (u : pq_S × pq_M) => u = (σ, I, J, ri, rj, rq) ∧ g_X12_isDigit_x a0 = r ∧ ((r = 1 ∧ rg a0 48 57 ∧ (48 ≤ a0.toInt ∧ a0.toInt ≤ 57)) ∨ (r = 0 ∧ (a0.toInt < 48 ∨ 57 < a0.toInt)))) := by
  refine Met.ofW (cc := cX12_isDigit) (maxL := 1) (ret := (some .boolean)) (by decide +kernel) rfl ?_
  intro p e s m args below meth c s₁ B hml hv
  obtain ⟨rfl, hsz, hP, hK, hD0, hN⟩ := hv
  have hx := B.exec
  have hb := B.bytes
  have hr := B.returns
  have hts := atoms_spec (ws := (wa yX12_isDigit cX12_isDigit 1 (some .boolean))) B.pre
  have hown : s.vm.findClass RX12 = some m.cls := findClass_of_methodNamed B.named
  have hlocks := B.notSynchronized
  subst hsz
  have hD : va_D (pq_B t σ (I, J, ri, rj, rq) s.heap.size) (pq_P t σ (I, J, ri, rj, rq)) := hD0.self
  generalize hAe : pq_B t σ (I, J, ri, rj, rq) s.heap.size = A at hD ⊢
  have hA : ∀ q : Nat, s.heap.size ≤ q → A q := fun q h => by rw [← hAe]; exact Or.inr h
  have hS : va_S A s.heap s.heap [] := va_S.rf
  have hG : GM [] tg σ I ri I ri rq := ⟨hG0, fun _ _ _ => rfl, fun _ _ _ _ _ => rfl, fun _ _ _ _ _ _ => rfl⟩
  have hl := lv_entry ([.int a0]) (n := 1) (Nat.le_of_ble_eq_true rfl)
  rw [lg_entry_eq]
  generalize (lg_sl ([.int a0]) ++ List.replicate (1 - (lg_sl ([.int a0])).length) Slot.unset).toArray = ls at hl ⊢
  have hl : lv_has ls 1 [(0, .int a0)] := hl
  refine q_gen (fun Q hQ => ?_)
  have go : ∀ (H : Heap) (locs : List Loc) (ls : Array Slot), va_P D vwCl (pq_P t σ (I, J, ri, rj, rq)) H → va_D A (pq_P t σ (I, J, ri, rj, rq)) → va_S A s.heap H locs → lv_has ls 1 [(0, .int a0)] → W p l e ({ frames := 1, cells := 0, slots := 0, locals := 22 } : Room) s m (List.toArray ([.int a0] : List Value)) below meth c H locs 0 0 Q (F0 m 0 ls []) := by
    intro H locs ls hP hD hS hl
    obtain ⟨F, hF0⟩ : ∃ F, F = g_X12_isDigit_x a0 := ⟨_, rfl⟩
    have hF := hF0.trans g_X12_isDigit_x_e
    refine lv_iload_n hx hb dX12_isDigit_0 rfl (lv_at hl 0 rfl) ?_
    refine lv_bipush (v := 48) hx hb dX12_isDigit_1 (by decide +kernel) ?_
    refine lv_bipush (v := 57) hx hb dX12_isDigit_3 (by decide +kernel) ?_
    refine pk_i (va_runS (As := [.int a0, .int 48, .int 57]) (rest := []) ⟨hx, hb, hml, hown, hts⟩ (s_X12_isIn_x l D t σ I J ri rj rq H.size tg hSH hG.1 a0 (48 : Int32) (57 : Int32)) (va_cwS 3 hts (tw_S tw_235 tw_236 tw_5 tw_237) rfl rfl rfl cd_yX12_isIn_3 ⟨Nat.le_of_ble_eq_true rfl, Nat.le_of_ble_eq_true rfl⟩) ⟨pq_blind, pq_pre hK hN hP hD⟩ rfl rfl hl.1 rfl (lv_room (Nat.le_of_ble_eq_true rfl)) dX12_isDigit_5 ⟨Nat.le_of_ble_eq_true rfl, Nat.le_of_ble_eq_true rfl⟩) hD hS hA (fun x_1 σ1 μ1 H locs hw_2 hP hD hS => ?_)
    obtain ⟨hu_3, hfn_6, hr_5⟩ := hw_2
    obtain ⟨hu_3a, hu_3b⟩ := Prod.mk.inj hu_3
    rw [hu_3a, hu_3b] at hP hD
    replace hF := hF.trans (ap_n hfn_6.symm)
    have h_8 : rg x_1 0 1 := by rcases hr_5 with ⟨q, -⟩ | ⟨q, -⟩ <;> rw [q] <;> exact ⟨by decide +kernel, by decide +kernel⟩
    have uh_8 := h_8.1
    have vh_8 := h_8.2
    rcases hr_5 with ⟨e_12, f_9, f_10⟩ | ⟨e_12, f_11⟩
    · refine lv_tov 1 e_12 ?_
      have tc_13 : 48 ≤ (a0).toInt := Int32.le_iff_toInt_le.mp f_9
      have h_14 : rg a0 48 2147483647 := rg_le2 f_9 (rg_k (48 : Int32) 48 rfl) (rg_full _) (by decide +kernel)
      have uh_14 := h_14.1
      have vh_14 := h_14.2
      have tc_15 : (a0).toInt ≤ 57 := Int32.le_iff_toInt_le.mp f_10
      have h_16 : rg a0 48 57 := rg_le1 f_10 h_14 (rg_k (57 : Int32) 57 rfl) (by decide +kernel)
      have uh_16 := h_16.1
      have vh_16 := h_16.2
      subst hQ
      exact W.zret (v := 1) hx hb hr (by decide +kernel) (fun t1 ht hW => ⟨⟨1, (σ, I, J, ri, rj, rq), rfl, ⟨rfl, (hF0.symm.trans (hF.trans (by rw [e_12]))), (Or.inl ⟨rfl, (rg_w h_16 (by decide +kernel)), (by omega)⟩)⟩, by rw [ht]; exact hP, va_K.moved hW.alike hK, hD⟩, hS.F ht⟩) hS.2.2 dX12_isDigit_8
    · refine lv_tov 0 e_12 ?_
      have zk_17 : (48 : Int32).toInt = 48 := rfl
      have zk_18 : (57 : Int32).toInt = 57 := rfl
      subst hQ
      exact W.zret (v := 0) hx hb hr (by decide +kernel) (fun t1 ht hW => ⟨⟨0, (σ, I, J, ri, rj, rq), rfl, ⟨rfl, (hF0.symm.trans (hF.trans (by rw [e_12]))), (Or.inr ⟨rfl, (by omega)⟩)⟩, by rw [ht]; exact hP, va_K.moved hW.alike hK, hD⟩, hS.F ht⟩) hS.2.2 dX12_isDigit_8
  exact go _ _ _ hP hD hS hl

set_option maxRecDepth 100000 in
def g_X12_isLetter_x (a0 : Int32) : Int32 := (ap1 (g_X12_isIn_x a0 (97 : Int32) (122 : Int32)) fun (x_1 : Int32) => (if x_1 = (0 : Int32) then (ap1 (g_X12_isIn_x a0 (65 : Int32) (90 : Int32)) fun (x_36 : Int32) => (if x_36 = (0 : Int32) then (0 : Int32) else (1 : Int32))) else (1 : Int32)))
set_option maxRecDepth 100000 in
theorem g_X12_isLetter_x_e {a0 : Int32} : g_X12_isLetter_x a0 = (ap1 (g_X12_isIn_x a0 (97 : Int32) (122 : Int32)) fun (x_1 : Int32) => (if x_1 = (0 : Int32) then (ap1 (g_X12_isIn_x a0 (65 : Int32) (90 : Int32)) fun (x_36 : Int32) => (if x_36 = (0 : Int32) then (0 : Int32) else (1 : Int32))) else (1 : Int32))) := rfl
set_option maxHeartbeats 4000000 in
set_option maxRecDepth 100000 in
theorem s_X12_isLetter_x (l : Launch) (D : va_G) (t : pq_T) (σ : pq_S) (I : Nat → Nat → Int32) (J : Nat → Nat → Int64) (ri : Nat → Nat → Int32) (rj : Nat → Nat → Int64) (rq : Nat → Nat → Option Nat) (sz : Nat) (tg : Nat → Nat) (hSH : SH σ tg) (hG0 : GT tg I ri) (a0 : Int32) : MetI l yX12_isLetter (wa yX12_isLetter cX12_isLetter 1 (some .boolean)) ({ frames := 1, cells := 0, slots := 0, locals := 22 }) [.int a0] D t σ (I, J, ri, rj, rq) sz 0 0 (fun (r : Int32) (u : pq_S × pq_M) => u = (σ, I, J, ri, rj, rq) ∧ g_X12_isLetter_x a0 = r ∧ ((r = 1 ∧ rg a0 65 122 ∧ ((65 ≤ a0.toInt ∧ a0.toInt ≤ 90 ∨ 97 ≤ a0.toInt ∧ a0.toInt ≤ 122))) ∨ (r = 0 ∧ (¬ (65 ≤ a0.toInt ∧ a0.toInt ≤ 90 ∨ 97 ≤ a0.toInt ∧ a0.toInt ≤ 122))))) := by
  refine Met.ofW (cc := cX12_isLetter) (maxL := 1) (ret := (some .boolean)) (by decide +kernel) rfl ?_
  intro p e s m args below meth c s₁ B hml hv
  obtain ⟨rfl, hsz, hP, hK, hD0, hN⟩ := hv
  have hx := B.exec
  have hb := B.bytes
  have hr := B.returns
  have hts := atoms_spec (ws := (wa yX12_isLetter cX12_isLetter 1 (some .boolean))) B.pre
  have hown : s.vm.findClass RX12 = some m.cls := findClass_of_methodNamed B.named
  have hlocks := B.notSynchronized
  subst hsz
  have hD : va_D (pq_B t σ (I, J, ri, rj, rq) s.heap.size) (pq_P t σ (I, J, ri, rj, rq)) := hD0.self
  generalize hAe : pq_B t σ (I, J, ri, rj, rq) s.heap.size = A at hD ⊢
  have hA : ∀ q : Nat, s.heap.size ≤ q → A q := fun q h => by rw [← hAe]; exact Or.inr h
  have hS : va_S A s.heap s.heap [] := va_S.rf
  have hG : GM [] tg σ I ri I ri rq := ⟨hG0, fun _ _ _ => rfl, fun _ _ _ _ _ => rfl, fun _ _ _ _ _ _ => rfl⟩
  have hl := lv_entry ([.int a0]) (n := 1) (Nat.le_of_ble_eq_true rfl)
  rw [lg_entry_eq]
  generalize (lg_sl ([.int a0]) ++ List.replicate (1 - (lg_sl ([.int a0])).length) Slot.unset).toArray = ls at hl ⊢
  have hl : lv_has ls 1 [(0, .int a0)] := hl
  refine q_gen (fun Q hQ => ?_)
  have go : ∀ (H : Heap) (locs : List Loc) (ls : Array Slot), va_P D vwCl (pq_P t σ (I, J, ri, rj, rq)) H → va_D A (pq_P t σ (I, J, ri, rj, rq)) → va_S A s.heap H locs → lv_has ls 1 [(0, .int a0)] → W p l e ({ frames := 1, cells := 0, slots := 0, locals := 22 } : Room) s m (List.toArray ([.int a0] : List Value)) below meth c H locs 0 0 Q (F0 m 0 ls []) := by
    intro H locs ls hP hD hS hl
    obtain ⟨F, hF0⟩ : ∃ F, F = g_X12_isLetter_x a0 := ⟨_, rfl⟩
    have hF := hF0.trans g_X12_isLetter_x_e
    refine lv_iload_n hx hb dX12_isLetter_0 rfl (lv_at hl 0 rfl) ?_
    refine lv_bipush (v := 97) hx hb dX12_isLetter_1 (by decide +kernel) ?_
    refine lv_bipush (v := 122) hx hb dX12_isLetter_3 (by decide +kernel) ?_
    refine pk_i (va_runS (As := [.int a0, .int 97, .int 122]) (rest := []) ⟨hx, hb, hml, hown, hts⟩ (s_X12_isIn_x l D t σ I J ri rj rq H.size tg hSH hG.1 a0 (97 : Int32) (122 : Int32)) (va_cwS 3 hts (tw_S tw_235 tw_236 tw_5 tw_237) rfl rfl rfl cd_yX12_isIn_3 ⟨Nat.le_of_ble_eq_true rfl, Nat.le_of_ble_eq_true rfl⟩) ⟨pq_blind, pq_pre hK hN hP hD⟩ rfl rfl hl.1 rfl (lv_room (Nat.le_of_ble_eq_true rfl)) dX12_isLetter_5 ⟨Nat.le_of_ble_eq_true rfl, Nat.le_of_ble_eq_true rfl⟩) hD hS hA (fun x_1 σ1 μ1 H locs hw_2 hP hD hS => ?_)
    obtain ⟨hu_3, hfn_6, hr_5⟩ := hw_2
    obtain ⟨hu_3a, hu_3b⟩ := Prod.mk.inj hu_3
    rw [hu_3a, hu_3b] at hP hD
    replace hF := hF.trans (ap_n hfn_6.symm)
    have h_8 : rg x_1 0 1 := by rcases hr_5 with ⟨q, -⟩ | ⟨q, -⟩ <;> rw [q] <;> exact ⟨by decide +kernel, by decide +kernel⟩
    have uh_8 := h_8.1
    have vh_8 := h_8.2
    refine lv_if_ne (tgt := 22) hx hb dX12_isLetter_8 (by decide +kernel) (fun c_9 => ?_) (fun c_9 => ?_)
    · replace hF := hF.trans (if_neg c_9)
      obtain ⟨f_23, f_24⟩ := (hr_5.resolve_right (fun q => c_9 q.1)).2
      have tc_25 : 97 ≤ (a0).toInt := Int32.le_iff_toInt_le.mp f_23
      have h_26 : rg a0 97 2147483647 := rg_le2 f_23 (rg_k (97 : Int32) 97 rfl) (rg_full _) (by decide +kernel)
      have uh_26 := h_26.1
      have vh_26 := h_26.2
      have tc_27 : (a0).toInt ≤ 122 := Int32.le_iff_toInt_le.mp f_24
      have h_28 : rg a0 97 122 := rg_le1 f_24 h_26 (rg_k (122 : Int32) 122 rfl) (by decide +kernel)
      have uh_28 := h_28.1
      have vh_28 := h_28.2
      have tc_29 : (x_1).toInt ≠ 0 := fun q => c_9 (Int32.toInt_inj.mp q)
      have h_30 : rg x_1 1 1 := rg_ne c_9 h_8 0 rfl (by decide +kernel)
      have uh_30 := h_30.1
      have vh_30 := h_30.2
      refine lv_iconst (v := 1) hx hb dX12_isLetter_22 (by decide +kernel) ?_
      refine lv_goto (tgt := 27) hx hb dX12_isLetter_23 (by decide +kernel) ?_
      subst hQ
      exact W.zret (v := 1) hx hb hr (by decide +kernel) (fun t1 ht hW => ⟨⟨1, (σ, I, J, ri, rj, rq), rfl, ⟨rfl, (hF0.symm.trans hF), (Or.inl ⟨rfl, (rg_w h_28 (by decide +kernel)), (by omega)⟩)⟩, by rw [ht]; exact hP, va_K.moved hW.alike hK, hD⟩, hS.F ht⟩) hS.2.2 dX12_isLetter_27
    · replace hF := hF.trans (if_pos c_9)
      have f_31 := (hr_5.resolve_left (fun q => absurd (q.1.symm.trans c_9) (by decide +kernel))).2
      have zk_32 : (122 : Int32).toInt = 122 := rfl
      have zk_33 : (97 : Int32).toInt = 97 := rfl
      have tc_34 : (x_1).toInt = 0 := congrArg Int32.toInt c_9
      have h_35 : rg x_1 0 0 := rg_and h_8 (rg_of_eq c_9 (rg_k (0 : Int32) 0 rfl)) (by decide +kernel)
      have uh_35 := h_35.1
      have vh_35 := h_35.2
      refine lv_iload_n hx hb dX12_isLetter_11 rfl (lv_at hl 0 rfl) ?_
      refine lv_bipush (v := 65) hx hb dX12_isLetter_12 (by decide +kernel) ?_
      refine lv_bipush (v := 90) hx hb dX12_isLetter_14 (by decide +kernel) ?_
      refine pk_i (va_runS (As := [.int a0, .int 65, .int 90]) (rest := []) ⟨hx, hb, hml, hown, hts⟩ (s_X12_isIn_x l D t σ I J ri rj rq H.size tg hSH hG.1 a0 (65 : Int32) (90 : Int32)) (va_cwS 3 hts (tw_S tw_235 tw_236 tw_5 tw_237) rfl rfl rfl cd_yX12_isIn_3 ⟨Nat.le_of_ble_eq_true rfl, Nat.le_of_ble_eq_true rfl⟩) ⟨pq_blind, pq_pre hK hN hP hD⟩ rfl rfl hl.1 rfl (lv_room (Nat.le_of_ble_eq_true rfl)) dX12_isLetter_16 ⟨Nat.le_of_ble_eq_true rfl, Nat.le_of_ble_eq_true rfl⟩) hD hS hA (fun x_36 σ1 μ1 H locs hw_37 hP hD hS => ?_)
      obtain ⟨hu_38, hfn_41, hr_40⟩ := hw_37
      obtain ⟨hu_38a, hu_38b⟩ := Prod.mk.inj hu_38
      rw [hu_38a, hu_38b] at hP hD
      replace hF := hF.trans (ap_n hfn_41.symm)
      have h_43 : rg x_36 0 1 := by rcases hr_40 with ⟨q, -⟩ | ⟨q, -⟩ <;> rw [q] <;> exact ⟨by decide +kernel, by decide +kernel⟩
      have uh_43 := h_43.1
      have vh_43 := h_43.2
      refine lv_if_eq (tgt := 26) hx hb dX12_isLetter_19 (by decide +kernel) (fun c_44 => ?_) (fun c_44 => ?_)
      · replace hF := hF.trans (if_pos c_44)
        have f_58 := (hr_40.resolve_left (fun q => absurd (q.1.symm.trans c_44) (by decide +kernel))).2
        have zk_59 : (65 : Int32).toInt = 65 := rfl
        have zk_60 : (90 : Int32).toInt = 90 := rfl
        have tc_61 : (x_36).toInt = 0 := congrArg Int32.toInt c_44
        have h_62 : rg x_36 0 0 := rg_and h_43 (rg_of_eq c_44 (rg_k (0 : Int32) 0 rfl)) (by decide +kernel)
        have uh_62 := h_62.1
        have vh_62 := h_62.2
        refine lv_iconst (v := 0) hx hb dX12_isLetter_26 (by decide +kernel) ?_
        subst hQ
        exact W.zret (v := 0) hx hb hr (by decide +kernel) (fun t1 ht hW => ⟨⟨0, (σ, I, J, ri, rj, rq), rfl, ⟨rfl, (hF0.symm.trans hF), (Or.inr ⟨rfl, (by omega)⟩)⟩, by rw [ht]; exact hP, va_K.moved hW.alike hK, hD⟩, hS.F ht⟩) hS.2.2 dX12_isLetter_27
      · replace hF := hF.trans (if_neg c_44)
        obtain ⟨f_63, f_64⟩ := (hr_40.resolve_right (fun q => c_44 q.1)).2
        have tc_65 : 65 ≤ (a0).toInt := Int32.le_iff_toInt_le.mp f_63
        have h_66 : rg a0 65 2147483647 := rg_le2 f_63 (rg_k (65 : Int32) 65 rfl) (rg_full _) (by decide +kernel)
        have uh_66 := h_66.1
        have vh_66 := h_66.2
        have tc_67 : (a0).toInt ≤ 90 := Int32.le_iff_toInt_le.mp f_64
        have h_68 : rg a0 65 90 := rg_le1 f_64 h_66 (rg_k (90 : Int32) 90 rfl) (by decide +kernel)
        have uh_68 := h_68.1
        have vh_68 := h_68.2
        have tc_69 : (x_36).toInt ≠ 0 := fun q => c_44 (Int32.toInt_inj.mp q)
        have h_70 : rg x_36 1 1 := rg_ne c_44 h_43 0 rfl (by decide +kernel)
        have uh_70 := h_70.1
        have vh_70 := h_70.2
        refine lv_iconst (v := 1) hx hb dX12_isLetter_22 (by decide +kernel) ?_
        refine lv_goto (tgt := 27) hx hb dX12_isLetter_23 (by decide +kernel) ?_
        subst hQ
        exact W.zret (v := 1) hx hb hr (by decide +kernel) (fun t1 ht hW => ⟨⟨1, (σ, I, J, ri, rj, rq), rfl, ⟨rfl, (hF0.symm.trans hF), (Or.inl ⟨rfl, (rg_w h_68 (by decide +kernel)), (by omega)⟩)⟩, by rw [ht]; exact hP, va_K.moved hW.alike hK, hD⟩, hS.F ht⟩) hS.2.2 dX12_isLetter_27
  exact go _ _ _ hP hD hS hl

set_option maxRecDepth 100000 in
def g_X12_see_x (a0 : Int32) (I : Nat → Int32) (J : Nat → Int64) (ri : Nat → Nat → Int32) (rj : Nat → Nat → Int64) (rq : Nat → Nat → Option Nat) : Int32 × vM := (ap1 (I 388) fun (y_2 : Int32) => (if (y_2) ≤ a0 then ((-1 : Int32), I, J, ri, rj, rq) else (ap1 (ri 387 (a0).toNatClampNeg) fun (x_12 : Int32) => (x_12, I, J, ri, rj, rq))))
set_option maxRecDepth 100000 in
theorem g_X12_see_x_e {a0 : Int32} {I : Nat → Int32} {J : Nat → Int64} {ri : Nat → Nat → Int32} {rj : Nat → Nat → Int64} {rq : Nat → Nat → Option Nat} : g_X12_see_x a0 I J ri rj rq = (ap1 (I 388) fun (y_2 : Int32) => (if (y_2) ≤ a0 then ((-1 : Int32), I, J, ri, rj, rq) else (ap1 (ri 387 (a0).toNatClampNeg) fun (x_12 : Int32) => (x_12, I, J, ri, rj, rq)))) := rfl
set_option maxHeartbeats 4000000 in
set_option maxRecDepth 100000 in
theorem s_X12_see_x (l : Launch) (D : va_G) (t : pq_T) (σ : pq_S) (I : Nat → Nat → Int32) (J : Nat → Nat → Int64) (ri : Nat → Nat → Int32) (rj : Nat → Nat → Int64) (rq : Nat → Nat → Option Nat) (sz : Nat) (tg : Nat → Nat) (hSH : SH σ tg) (hG0 : GT tg I ri) (this : Nat) (a0 : Int32) (hL_this : this ∈ σ.1) (hK_this : σ.2.1 this = 12) (h_a0 : rg a0 0 300) (this_tape : Nat) (hR_this_tape : σ.2.2.1 387 this = some this_tape) (hL_this_tape : this_tape ∈ σ.1) (hK_this_tape : σ.2.1 this_tape = 13) (hN_this_tape : σ.2.2.2 this_tape = 300) (hT_this_tape : tg this_tape = 387) : MetI l yX12_see (wa yX12_see cX12_see 2 (some .int)) ({ frames := 0, cells := 0, slots := 0, locals := 0 }) [.ref this, .int a0] D t σ (I, J, ri, rj, rq) sz 0 0 (fun (r : Int32) (u : pq_S × pq_M) => u = (σ, I, J, ri, rj, rq) ∧ ((r.toInt = -1 ∧ (I 388 this).toInt ≤ a0.toInt) ∨ (r = ri this_tape a0.toNatClampNeg ∧ 0 ≤ r.toInt ∧ a0.toInt < (I 388 this).toInt)) ∧ g_X12_see_x a0 (vI 12 σ this I) (vJ 12 σ this J) (vR 12 σ this ri) (vL 12 σ this rj) (vQ 12 σ this rq) = (r, (vI 12 σ this I), (vJ 12 σ this J), (vR 12 σ this ri), (vL 12 σ this rj), (vQ 12 σ this rq)) ∧ rg r (-1) 255) := by
  refine Met.ofW (cc := cX12_see) (maxL := 2) (ret := (some .int)) (by decide +kernel) rfl ?_
  intro p e s m args below meth c s₁ B hml hv
  obtain ⟨rfl, hsz, hP, hK, hD0, hN⟩ := hv
  have hx := B.exec
  have hb := B.bytes
  have hr := B.returns
  have hts := atoms_spec (ws := (wa yX12_see cX12_see 2 (some .int))) B.pre
  have hown : s.vm.findClass RX12 = some m.cls := findClass_of_methodNamed B.named
  have hlocks := B.notSynchronized
  subst hsz
  have hD : va_D (pq_B t σ (I, J, ri, rj, rq) s.heap.size) (pq_P t σ (I, J, ri, rj, rq)) := hD0.self
  generalize hAe : pq_B t σ (I, J, ri, rj, rq) s.heap.size = A at hD ⊢
  have hA : ∀ q : Nat, s.heap.size ≤ q → A q := fun q h => by rw [← hAe]; exact Or.inr h
  have hS : va_S A s.heap s.heap [] := va_S.rf
  have hG : GM [] tg σ I ri I ri rq := ⟨hG0, fun _ _ _ => rfl, fun _ _ _ _ _ => rfl, fun _ _ _ _ _ _ => rfl⟩
  have hl := lv_entry ([.ref this, .int a0]) (n := 2) (Nat.le_of_ble_eq_true rfl)
  rw [lg_entry_eq]
  generalize (lg_sl ([.ref this, .int a0]) ++ List.replicate (2 - (lg_sl ([.ref this, .int a0])).length) Slot.unset).toArray = ls at hl ⊢
  have hl : lv_has ls 2 [(0, .ref this), (1, .int a0)] := hl
  refine q_gen (fun Q hQ => ?_)
  have go : ∀ (H : Heap) (locs : List Loc) (ls : Array Slot), va_P D vwCl (pq_P t σ (I, J, ri, rj, rq)) H → va_D A (pq_P t σ (I, J, ri, rj, rq)) → va_S A s.heap H locs → lv_has ls 2 [(0, .ref this), (1, .int a0)] → W p l e ({ frames := 0, cells := 0, slots := 0, locals := 0 } : Room) s m (List.toArray ([.ref this, .int a0] : List Value)) below meth c H locs 0 0 Q (F0 m 0 ls []) := by
    intro H locs ls hP hD hS hl
    have hO_this : this = vo σ 12 this := rfl
    have hVT : VT 12 σ tg this := vt_12 hSH hL_this hK_this
    have hFr : FR 12 tg σ this (I, J, ri, rj, rq) (I, J, ri, rj, rq) := fr_rf
    have hO_this_tape : this_tape = vrow σ 387 this := vo_k (c := 12) hO_this hR_this_tape
    obtain ⟨F, hF0⟩ : ∃ F, F = g_X12_see_x a0 (vI 12 σ this I) (vJ 12 σ this J) (vR 12 σ this ri) (vL 12 σ this rj) (vQ 12 σ this rq) := ⟨_, rfl⟩
    have hF := hF0.trans g_X12_see_x_e
    refine lv_iload_n hx hb dX12_see_0 rfl (lv_at hl 1 rfl) ?_
    refine lv_aload_n hx hb dX12_see_1 rfl (lv_at hl 0 rfl) ?_
    refine pg_f (v := .int (I 388 this)) (C := RX12) (T := TX12) (N := 31) hx hb hts (tw_i inlX12) hown hK hP hL_this hK_this (by decide +kernel) rfl 4 (by decide +kernel) (hts _ (tw_c tw_631)) rfl dX12_see_2 ?_
    have h_1 : rg (I 388 this) 0 300 := GM.rI hG 388 rfl
    have uh_1 := h_1.1
    have vh_1 := h_1.2
    replace hF := hF.trans (ap_n (vI_e (f := 388) hO_this (by decide +kernel)))
    refine lv_icmp_ge (tgt := 17) hx hb dX12_see_5 (by decide +kernel) (fun c_3 => ?_) (fun c_3 => ?_)
    · replace hF := hF.trans (if_pos c_3)
      have tc_8 : (I 388 this).toInt ≤ (a0).toInt := Int32.le_iff_toInt_le.mp c_3
      refine lv_iconst (v := (-1)) hx hb dX12_see_17 (by decide +kernel) ?_
      subst hQ
      exact W.iret (v := (-1)) hx hb hr (fun t1 ht hW => ⟨⟨(-1), (σ, I, J, ri, rj, rq), rfl, ⟨rfl, (Or.inl ⟨rfl, by omega⟩), (hF0.symm.trans hF), (rg_w (rg_k (-1 : Int32) (-1) rfl) (by decide +kernel))⟩, by rw [ht]; exact hP, va_K.moved hW.alike hK, hD⟩, hS.F ht⟩) hS.2.2 dX12_see_18
    · replace hF := hF.trans (if_neg c_3)
      have tc_9 : (a0).toInt < (I 388 this).toInt := Int32.lt_iff_toInt_lt.mp (nle c_3)
      have h_10 : rg a0 0 299 := rg_lt1 (nle c_3) h_a0 h_1 (by decide +kernel)
      have uh_10 := h_10.1
      have vh_10 := h_10.2
      have h_11 : rg (I 388 this) 1 300 := rg_lt2 (nle c_3) h_a0 h_1 (by decide +kernel)
      have uh_11 := h_11.1
      have vh_11 := h_11.2
      refine lv_aload_n hx hb dX12_see_8 rfl (lv_at hl 0 rfl) ?_
      refine pg_f (v := .ref this_tape) (C := RX12) (T := TX12) (N := 31) hx hb hts (tw_i inlX12) hown hK hP hL_this hK_this (by decide +kernel) rfl 3 (by decide +kernel) (hts _ (tw_c tw_179)) (pq_hv rfl hR_this_tape) dX12_see_9 ?_
      refine lv_iload_n hx hb dX12_see_12 rfl (lv_at hl 1 rfl) ?_
      refine pl_i hx hb hK hP hL_this_tape hK_this_tape hN_this_tape (rg_in h_10 (by decide +kernel)) dX12_see_13 ?_
      refine lv_topi (fun x_12 ex_12 => ?_)
      replace hF := hF.trans (ap_n (vR_r hO_this_tape (by decide +kernel) ex_12))
      have ex_12 : x_12 = ri this_tape (a0).toNatClampNeg := ex_12
      have h_13 : rg x_12 0 255 := rg_of_eq ex_12 (GM.rR hG hT_this_tape rfl)
      have uh_13 := h_13.1
      have vh_13 := h_13.2
      refine lv_goto (tgt := 18) hx hb dX12_see_14 (by decide +kernel) ?_
      subst hQ
      exact W.iret (v := x_12) hx hb hr (fun t1 ht hW => ⟨⟨x_12, (σ, I, J, ri, rj, rq), rfl, ⟨rfl, (Or.inr ⟨ex_12, (h_13).1, by omega⟩), (hF0.symm.trans hF), (rg_w h_13 (by decide +kernel))⟩, by rw [ht]; exact hP, va_K.moved hW.alike hK, hD⟩, hS.F ht⟩) hS.2.2 dX12_see_18
  exact go _ _ _ hP hD hS hl

set_option maxRecDepth 100000 in
def g_X12_nextToken_x_K343 (J : Nat → Int64) (ri : Nat → Nat → Int32) (rj : Nat → Nat → Int64) (rq : Nat → Nat → Option Nat) (x_4475 : Int32) (I_4533 : Nat → Int32) : vM := (ap1 (va_up I_4533 393 (3 : Int32)) fun (I_4825 : Nat → Int32) => (if x_4475 = (60 : Int32) then (ap1 (I_4825 391) fun (y_4837 : Int32) => (bnI (g_X12_see_x (y_4837) I_4825 J ri rj rq) fun (x_4838 : Int32) (_ : Nat → Int32) (_ : Nat → Int64) (_ : Nat → Nat → Int32) (_ : Nat → Nat → Int64) (_ : Nat → Nat → Option Nat) => (if x_4838 = (61 : Int32) then (ap1 ((y_4837) + (1 : Int32)) fun (x_4856 : Int32) => (ap1 (va_up I_4825 391 x_4856) fun (I_4858 : Nat → Int32) => (ap1 (va_up I_4858 393 (4 : Int32)) fun (I_4868 : Nat → Int32) => (I_4868, J, ri, rj, rq)))) else (I_4825, J, ri, rj, rq)))) else (if x_4475 = (62 : Int32) then (ap1 (I_4825 391) fun (y_4882 : Int32) => (bnI (g_X12_see_x (y_4882) I_4825 J ri rj rq) fun (x_4883 : Int32) (_ : Nat → Int32) (_ : Nat → Int64) (_ : Nat → Nat → Int32) (_ : Nat → Nat → Int64) (_ : Nat → Nat → Option Nat) => (if x_4883 = (61 : Int32) then (ap1 ((y_4882) + (1 : Int32)) fun (x_4901 : Int32) => (ap1 (va_up I_4825 391 x_4901) fun (I_4903 : Nat → Int32) => (ap1 (va_up I_4903 393 (5 : Int32)) fun (I_4912 : Nat → Int32) => (I_4912, J, ri, rj, rq)))) else (I_4825, J, ri, rj, rq)))) else (I_4825, J, ri, rj, rq))))
set_option maxRecDepth 100000 in
theorem g_X12_nextToken_x_K343_e {J : Nat → Int64} {ri : Nat → Nat → Int32} {rj : Nat → Nat → Int64} {rq : Nat → Nat → Option Nat} {x_4475 : Int32} {I_4533 : Nat → Int32} : g_X12_nextToken_x_K343 J ri rj rq x_4475 I_4533  = (ap1 (va_up I_4533 393 (3 : Int32)) fun (I_4825 : Nat → Int32) => (if x_4475 = (60 : Int32) then (ap1 (I_4825 391) fun (y_4837 : Int32) => (bnI (g_X12_see_x (y_4837) I_4825 J ri rj rq) fun (x_4838 : Int32) (_ : Nat → Int32) (_ : Nat → Int64) (_ : Nat → Nat → Int32) (_ : Nat → Nat → Int64) (_ : Nat → Nat → Option Nat) => (if x_4838 = (61 : Int32) then (ap1 ((y_4837) + (1 : Int32)) fun (x_4856 : Int32) => (ap1 (va_up I_4825 391 x_4856) fun (I_4858 : Nat → Int32) => (ap1 (va_up I_4858 393 (4 : Int32)) fun (I_4868 : Nat → Int32) => (I_4868, J, ri, rj, rq)))) else (I_4825, J, ri, rj, rq)))) else (if x_4475 = (62 : Int32) then (ap1 (I_4825 391) fun (y_4882 : Int32) => (bnI (g_X12_see_x (y_4882) I_4825 J ri rj rq) fun (x_4883 : Int32) (_ : Nat → Int32) (_ : Nat → Int64) (_ : Nat → Nat → Int32) (_ : Nat → Nat → Int64) (_ : Nat → Nat → Option Nat) => (if x_4883 = (61 : Int32) then (ap1 ((y_4882) + (1 : Int32)) fun (x_4901 : Int32) => (ap1 (va_up I_4825 391 x_4901) fun (I_4903 : Nat → Int32) => (ap1 (va_up I_4903 393 (5 : Int32)) fun (I_4912 : Nat → Int32) => (I_4912, J, ri, rj, rq)))) else (I_4825, J, ri, rj, rq)))) else (I_4825, J, ri, rj, rq)))) := rfl
set_option maxRecDepth 100000 in
def g_X12_nextToken_x_K332 (J : Nat → Int64) (ri : Nat → Nat → Int32) (rj : Nat → Nat → Int64) (rq : Nat → Nat → Option Nat) (x_4475 : Int32) (I_4533 : Nat → Int32) : vM := (g_X12_nextToken_x_K343 J ri rj rq x_4475 I_4533 )
set_option maxRecDepth 100000 in
theorem g_X12_nextToken_x_K332_e {J : Nat → Int64} {ri : Nat → Nat → Int32} {rj : Nat → Nat → Int64} {rq : Nat → Nat → Option Nat} {x_4475 : Int32} {I_4533 : Nat → Int32} : g_X12_nextToken_x_K332 J ri rj rq x_4475 I_4533  = (g_X12_nextToken_x_K343 J ri rj rq x_4475 I_4533 ) := rfl
set_option maxRecDepth 100000 in
def g_X12_nextToken_x_K343_2 (J : Nat → Int64) (ri : Nat → Nat → Int32) (rj : Nat → Nat → Int64) (rq : Nat → Nat → Option Nat) (x_4475 : Int32) (I_4533 : Nat → Int32) : vM := (ap1 (va_up I_4533 393 x_4475) fun (I_5002 : Nat → Int32) => (if x_4475 = (60 : Int32) then (ap1 (I_5002 391) fun (y_5014 : Int32) => (bnI (g_X12_see_x (y_5014) I_5002 J ri rj rq) fun (x_5015 : Int32) (_ : Nat → Int32) (_ : Nat → Int64) (_ : Nat → Nat → Int32) (_ : Nat → Nat → Int64) (_ : Nat → Nat → Option Nat) => (if x_5015 = (61 : Int32) then (ap1 ((y_5014) + (1 : Int32)) fun (x_5033 : Int32) => (ap1 (va_up I_5002 391 x_5033) fun (I_5035 : Nat → Int32) => (ap1 (va_up I_5035 393 (4 : Int32)) fun (I_5045 : Nat → Int32) => (I_5045, J, ri, rj, rq)))) else (I_5002, J, ri, rj, rq)))) else (if x_4475 = (62 : Int32) then (ap1 (I_5002 391) fun (y_5061 : Int32) => (bnI (g_X12_see_x (y_5061) I_5002 J ri rj rq) fun (x_5062 : Int32) (_ : Nat → Int32) (_ : Nat → Int64) (_ : Nat → Nat → Int32) (_ : Nat → Nat → Int64) (_ : Nat → Nat → Option Nat) => (if x_5062 = (61 : Int32) then (ap1 ((y_5061) + (1 : Int32)) fun (x_5080 : Int32) => (ap1 (va_up I_5002 391 x_5080) fun (I_5082 : Nat → Int32) => (ap1 (va_up I_5082 393 (5 : Int32)) fun (I_5091 : Nat → Int32) => (I_5091, J, ri, rj, rq)))) else (I_5002, J, ri, rj, rq)))) else (I_5002, J, ri, rj, rq))))
set_option maxRecDepth 100000 in
theorem g_X12_nextToken_x_K343_2_e {J : Nat → Int64} {ri : Nat → Nat → Int32} {rj : Nat → Nat → Int64} {rq : Nat → Nat → Option Nat} {x_4475 : Int32} {I_4533 : Nat → Int32} : g_X12_nextToken_x_K343_2 J ri rj rq x_4475 I_4533  = (ap1 (va_up I_4533 393 x_4475) fun (I_5002 : Nat → Int32) => (if x_4475 = (60 : Int32) then (ap1 (I_5002 391) fun (y_5014 : Int32) => (bnI (g_X12_see_x (y_5014) I_5002 J ri rj rq) fun (x_5015 : Int32) (_ : Nat → Int32) (_ : Nat → Int64) (_ : Nat → Nat → Int32) (_ : Nat → Nat → Int64) (_ : Nat → Nat → Option Nat) => (if x_5015 = (61 : Int32) then (ap1 ((y_5014) + (1 : Int32)) fun (x_5033 : Int32) => (ap1 (va_up I_5002 391 x_5033) fun (I_5035 : Nat → Int32) => (ap1 (va_up I_5035 393 (4 : Int32)) fun (I_5045 : Nat → Int32) => (I_5045, J, ri, rj, rq)))) else (I_5002, J, ri, rj, rq)))) else (if x_4475 = (62 : Int32) then (ap1 (I_5002 391) fun (y_5061 : Int32) => (bnI (g_X12_see_x (y_5061) I_5002 J ri rj rq) fun (x_5062 : Int32) (_ : Nat → Int32) (_ : Nat → Int64) (_ : Nat → Nat → Int32) (_ : Nat → Nat → Int64) (_ : Nat → Nat → Option Nat) => (if x_5062 = (61 : Int32) then (ap1 ((y_5061) + (1 : Int32)) fun (x_5080 : Int32) => (ap1 (va_up I_5002 391 x_5080) fun (I_5082 : Nat → Int32) => (ap1 (va_up I_5082 393 (5 : Int32)) fun (I_5091 : Nat → Int32) => (I_5091, J, ri, rj, rq)))) else (I_5002, J, ri, rj, rq)))) else (I_5002, J, ri, rj, rq)))) := rfl
set_option maxRecDepth 100000 in
def g_X12_nextToken_x_K332_2 (J : Nat → Int64) (ri : Nat → Nat → Int32) (rj : Nat → Nat → Int64) (rq : Nat → Nat → Option Nat) (x_4475 : Int32) (I_4533 : Nat → Int32) : vM := (g_X12_nextToken_x_K343_2 J ri rj rq x_4475 I_4533 )
set_option maxRecDepth 100000 in
theorem g_X12_nextToken_x_K332_2_e {J : Nat → Int64} {ri : Nat → Nat → Int32} {rj : Nat → Nat → Int64} {rq : Nat → Nat → Option Nat} {x_4475 : Int32} {I_4533 : Nat → Int32} : g_X12_nextToken_x_K332_2 J ri rj rq x_4475 I_4533  = (g_X12_nextToken_x_K343_2 J ri rj rq x_4475 I_4533 ) := rfl
set_option maxRecDepth 100000 in
def g_X12_nextToken_x_K327 (J : Nat → Int64) (ri : Nat → Nat → Int32) (rj : Nat → Nat → Int64) (rq : Nat → Nat → Option Nat) (x_4475 : Int32) (I_4533 : Nat → Int32) : vM := (g_X12_nextToken_x_K332_2 J ri rj rq x_4475 I_4533 )
set_option maxRecDepth 100000 in
theorem g_X12_nextToken_x_K327_e {J : Nat → Int64} {ri : Nat → Nat → Int32} {rj : Nat → Nat → Int64} {rq : Nat → Nat → Option Nat} {x_4475 : Int32} {I_4533 : Nat → Int32} : g_X12_nextToken_x_K327 J ri rj rq x_4475 I_4533  = (g_X12_nextToken_x_K332_2 J ri rj rq x_4475 I_4533 ) := rfl
set_option maxRecDepth 100000 in
def g_X12_nextToken_x_L161 (ri : Nat → Nat → Int32) (rj : Nat → Nat → Int64) (rq : Nat → Nat → Option Nat) : Nat → (Nat → Int32) → (Nat → Int64) → vM
  | 0, I_5439, J_5440 => (I_5439, J_5440, ri, rj, rq)
  | n_5522 + 1, I_5439, J_5440 => (ap1 (I_5439 391) fun (y_5528 : Int32) => (bnI (g_X12_see_x (y_5528) I_5439 J_5440 ri rj rq) fun (x_5529 : Int32) (_ : Nat → Int32) (_ : Nat → Int64) (_ : Nat → Nat → Int32) (_ : Nat → Nat → Int64) (_ : Nat → Nat → Option Nat) => (ap1 (g_X12_isLetter_x x_5529) fun (x_5540 : Int32) => (if x_5540 = (0 : Int32) then (ap1 (I_5439 392) fun (y_5560 : Int32) => (ap1 ((y_5528) - (y_5560)) fun (x_5561 : Int32) => (if x_5561 ≤ (7 : Int32) then (I_5439, J_5440, ri, rj, rq) else (ap1 (va_up J_5440 395 (0 : Int64)) fun (J_5572 : Nat → Int64) => (I_5439, J_5572, ri, rj, rq))))) else (ap1 (I_5439 392) fun (y_5578 : Int32) => (ap1 ((y_5528) - (y_5578)) fun (x_5579 : Int32) => (if (7 : Int32) ≤ x_5579 then (ap1 ((y_5528) + (1 : Int32)) fun (x_5589 : Int32) => (ap1 (va_up I_5439 391 x_5589) fun (I_5591 : Nat → Int32) => ((g_X12_nextToken_x_L161 ri rj rq n_5522) I_5591 J_5440))) else (ap1 (J_5440 395) fun (y_5598 : Int64) => (ap1 ((y_5598) <<< ((8 : Int32).toInt64 &&& 63)) fun (x_5599 : Int64) => (bnI (g_X12_see_x (y_5528) I_5439 J_5440 ri rj rq) fun (x_5600 : Int32) (_ : Nat → Int32) (_ : Nat → Int64) (_ : Nat → Nat → Int32) (_ : Nat → Nat → Int64) (_ : Nat → Nat → Option Nat) => (ap1 (x_5600.toInt64) fun (x_5610 : Int64) => (ap1 (x_5599 ||| x_5610) fun (x_5611 : Int64) => (ap1 (va_up J_5440 395 x_5611) fun (J_5612 : Nat → Int64) => (ap1 ((y_5528) + (1 : Int32)) fun (x_5614 : Int32) => (ap1 (va_up I_5439 391 x_5614) fun (I_5616 : Nat → Int32) => ((g_X12_nextToken_x_L161 ri rj rq n_5522) I_5616 J_5612))))))))))))))))
set_option maxRecDepth 100000 in
theorem g_X12_nextToken_x_L161_e {ri : Nat → Nat → Int32} {rj : Nat → Nat → Int64} {rq : Nat → Nat → Option Nat} {n_5522 : Nat} {I_5439 : Nat → Int32} {J_5440 : Nat → Int64} : g_X12_nextToken_x_L161 ri rj rq (n_5522 + 1) I_5439 J_5440 = (ap1 (I_5439 391) fun (y_5528 : Int32) => (bnI (g_X12_see_x (y_5528) I_5439 J_5440 ri rj rq) fun (x_5529 : Int32) (_ : Nat → Int32) (_ : Nat → Int64) (_ : Nat → Nat → Int32) (_ : Nat → Nat → Int64) (_ : Nat → Nat → Option Nat) => (ap1 (g_X12_isLetter_x x_5529) fun (x_5540 : Int32) => (if x_5540 = (0 : Int32) then (ap1 (I_5439 392) fun (y_5560 : Int32) => (ap1 ((y_5528) - (y_5560)) fun (x_5561 : Int32) => (if x_5561 ≤ (7 : Int32) then (I_5439, J_5440, ri, rj, rq) else (ap1 (va_up J_5440 395 (0 : Int64)) fun (J_5572 : Nat → Int64) => (I_5439, J_5572, ri, rj, rq))))) else (ap1 (I_5439 392) fun (y_5578 : Int32) => (ap1 ((y_5528) - (y_5578)) fun (x_5579 : Int32) => (if (7 : Int32) ≤ x_5579 then (ap1 ((y_5528) + (1 : Int32)) fun (x_5589 : Int32) => (ap1 (va_up I_5439 391 x_5589) fun (I_5591 : Nat → Int32) => ((g_X12_nextToken_x_L161 ri rj rq n_5522) I_5591 J_5440))) else (ap1 (J_5440 395) fun (y_5598 : Int64) => (ap1 ((y_5598) <<< ((8 : Int32).toInt64 &&& 63)) fun (x_5599 : Int64) => (bnI (g_X12_see_x (y_5528) I_5439 J_5440 ri rj rq) fun (x_5600 : Int32) (_ : Nat → Int32) (_ : Nat → Int64) (_ : Nat → Nat → Int32) (_ : Nat → Nat → Int64) (_ : Nat → Nat → Option Nat) => (ap1 (x_5600.toInt64) fun (x_5610 : Int64) => (ap1 (x_5599 ||| x_5610) fun (x_5611 : Int64) => (ap1 (va_up J_5440 395 x_5611) fun (J_5612 : Nat → Int64) => (ap1 ((y_5528) + (1 : Int32)) fun (x_5614 : Int32) => (ap1 (va_up I_5439 391 x_5614) fun (I_5616 : Nat → Int32) => ((g_X12_nextToken_x_L161 ri rj rq n_5522) I_5616 J_5612)))))))))))))))) := rfl
set_option maxRecDepth 100000 in
def g_X12_nextToken_x_L85 (J : Nat → Int64) (ri : Nat → Nat → Int32) (rj : Nat → Nat → Int64) (rq : Nat → Nat → Option Nat) : Nat → (Nat → Int32) → vM
  | 0, I_5848 => (I_5848, J, ri, rj, rq)
  | n_5922 + 1, I_5848 => (ap1 (I_5848 391) fun (y_5928 : Int32) => (bnI (g_X12_see_x (y_5928) I_5848 J ri rj rq) fun (x_5929 : Int32) (_ : Nat → Int32) (_ : Nat → Int64) (_ : Nat → Nat → Int32) (_ : Nat → Nat → Int64) (_ : Nat → Nat → Option Nat) => (ap1 (g_X12_isDigit_x x_5929) fun (x_5940 : Int32) => (if x_5940 = (0 : Int32) then (I_5848, J, ri, rj, rq) else (ap1 (I_5848 394) fun (y_5963 : Int32) => (if (100000 : Int32) ≤ (y_5963) then (ap1 ((y_5928) + (1 : Int32)) fun (x_5972 : Int32) => (ap1 (va_up I_5848 391 x_5972) fun (I_5974 : Nat → Int32) => ((g_X12_nextToken_x_L85 J ri rj rq n_5922) I_5974))) else (ap1 ((10 : Int32) * (y_5963)) fun (x_5981 : Int32) => (bnI (g_X12_see_x (y_5928) I_5848 J ri rj rq) fun (x_5982 : Int32) (_ : Nat → Int32) (_ : Nat → Int64) (_ : Nat → Nat → Int32) (_ : Nat → Nat → Int64) (_ : Nat → Nat → Option Nat) => (ap1 (x_5981 + x_5982) fun (x_5992 : Int32) => (ap1 (x_5992 - (48 : Int32)) fun (x_5993 : Int32) => (ap1 (va_up I_5848 394 x_5993) fun (I_5994 : Nat → Int32) => (ap1 (I_5994 391) fun (y_6000 : Int32) => (ap1 ((y_6000) + (1 : Int32)) fun (x_6002 : Int32) => (ap1 (va_up I_5994 391 x_6002) fun (I_6004 : Nat → Int32) => ((g_X12_nextToken_x_L85 J ri rj rq n_5922) I_6004)))))))))))))))
set_option maxRecDepth 100000 in
theorem g_X12_nextToken_x_L85_e {J : Nat → Int64} {ri : Nat → Nat → Int32} {rj : Nat → Nat → Int64} {rq : Nat → Nat → Option Nat} {n_5922 : Nat} {I_5848 : Nat → Int32} : g_X12_nextToken_x_L85 J ri rj rq (n_5922 + 1) I_5848 = (ap1 (I_5848 391) fun (y_5928 : Int32) => (bnI (g_X12_see_x (y_5928) I_5848 J ri rj rq) fun (x_5929 : Int32) (_ : Nat → Int32) (_ : Nat → Int64) (_ : Nat → Nat → Int32) (_ : Nat → Nat → Int64) (_ : Nat → Nat → Option Nat) => (ap1 (g_X12_isDigit_x x_5929) fun (x_5940 : Int32) => (if x_5940 = (0 : Int32) then (I_5848, J, ri, rj, rq) else (ap1 (I_5848 394) fun (y_5963 : Int32) => (if (100000 : Int32) ≤ (y_5963) then (ap1 ((y_5928) + (1 : Int32)) fun (x_5972 : Int32) => (ap1 (va_up I_5848 391 x_5972) fun (I_5974 : Nat → Int32) => ((g_X12_nextToken_x_L85 J ri rj rq n_5922) I_5974))) else (ap1 ((10 : Int32) * (y_5963)) fun (x_5981 : Int32) => (bnI (g_X12_see_x (y_5928) I_5848 J ri rj rq) fun (x_5982 : Int32) (_ : Nat → Int32) (_ : Nat → Int64) (_ : Nat → Nat → Int32) (_ : Nat → Nat → Int64) (_ : Nat → Nat → Option Nat) => (ap1 (x_5981 + x_5982) fun (x_5992 : Int32) => (ap1 (x_5992 - (48 : Int32)) fun (x_5993 : Int32) => (ap1 (va_up I_5848 394 x_5993) fun (I_5994 : Nat → Int32) => (ap1 (I_5994 391) fun (y_6000 : Int32) => (ap1 ((y_6000) + (1 : Int32)) fun (x_6002 : Int32) => (ap1 (va_up I_5994 391 x_6002) fun (I_6004 : Nat → Int32) => ((g_X12_nextToken_x_L85 J ri rj rq n_5922) I_6004))))))))))))))) := rfl
set_option maxRecDepth 100000 in
def g_X12_nextToken_x_L0 (J : Nat → Int64) (ri : Nat → Nat → Int32) (rj : Nat → Nat → Int64) (rq : Nat → Nat → Option Nat) : Nat → (Nat → Int32) → vM
  | 0, I_3315 => (I_3315, J, ri, rj, rq)
  | n_4421 + 1, I_3315 => (ap1 (I_3315 391) fun (y_4427 : Int32) => (bnI (g_X12_see_x (y_4427) I_3315 J ri rj rq) fun (x_4428 : Int32) (_ : Nat → Int32) (_ : Nat → Int64) (_ : Nat → Nat → Int32) (_ : Nat → Nat → Int64) (_ : Nat → Nat → Option Nat) => (if x_4428 = (32 : Int32) then (ap1 ((y_4427) + (1 : Int32)) fun (x_4445 : Int32) => (ap1 (va_up I_3315 391 x_4445) fun (I_4447 : Nat → Int32) => ((g_X12_nextToken_x_L0 J ri rj rq n_4421) I_4447))) else (bnI (g_X12_see_x (y_4427) I_3315 J ri rj rq) fun (x_4453 : Int32) (_ : Nat → Int32) (_ : Nat → Int64) (_ : Nat → Nat → Int32) (_ : Nat → Nat → Int64) (_ : Nat → Nat → Option Nat) => (if x_4453 = (10 : Int32) then (ap1 ((y_4427) + (1 : Int32)) fun (x_6020 : Int32) => (ap1 (va_up I_3315 391 x_6020) fun (I_6022 : Nat → Int32) => ((g_X12_nextToken_x_L0 J ri rj rq n_4421) I_6022))) else (ap1 (va_up I_3315 392 (y_4427)) fun (I_4468 : Nat → Int32) => (ap1 (I_4468 391) fun (y_4474 : Int32) => (bnI (g_X12_see_x (y_4474) I_4468 J ri rj rq) fun (x_4475 : Int32) (_ : Nat → Int32) (_ : Nat → Int64) (_ : Nat → Nat → Int32) (_ : Nat → Nat → Int64) (_ : Nat → Nat → Option Nat) => (if (0 : Int32) ≤ x_4475 then (ap1 (g_X12_isDigit_x x_4475) fun (x_4492 : Int32) => (if x_4492 = (0 : Int32) then (ap1 (g_X12_isLetter_x x_4475) fun (x_4511 : Int32) => (if x_4511 = (0 : Int32) then (ap1 ((y_4474) + (1 : Int32)) fun (x_4531 : Int32) => (ap1 (va_up I_4468 391 x_4531) fun (I_4533 : Nat → Int32) => (if x_4475 = (60 : Int32) then (g_X12_nextToken_x_K327 J ri rj rq x_4475 I_4533 ) else (if x_4475 = (62 : Int32) then (g_X12_nextToken_x_K327 J ri rj rq x_4475 I_4533 ) else (if x_4475 = (61 : Int32) then (g_X12_nextToken_x_K327 J ri rj rq x_4475 I_4533 ) else (if x_4475 = (35 : Int32) then (g_X12_nextToken_x_K327 J ri rj rq x_4475 I_4533 ) else (if x_4475 = (43 : Int32) then (g_X12_nextToken_x_K327 J ri rj rq x_4475 I_4533 ) else (if x_4475 = (45 : Int32) then (g_X12_nextToken_x_K327 J ri rj rq x_4475 I_4533 ) else (if x_4475 = (42 : Int32) then (g_X12_nextToken_x_K327 J ri rj rq x_4475 I_4533 ) else (if x_4475 = (47 : Int32) then (g_X12_nextToken_x_K327 J ri rj rq x_4475 I_4533 ) else (if x_4475 = (40 : Int32) then (g_X12_nextToken_x_K327 J ri rj rq x_4475 I_4533 ) else (if x_4475 = (41 : Int32) then (g_X12_nextToken_x_K327 J ri rj rq x_4475 I_4533 ) else (if x_4475 = (44 : Int32) then (g_X12_nextToken_x_K327 J ri rj rq x_4475 I_4533 ) else (if x_4475 = (59 : Int32) then (g_X12_nextToken_x_K327 J ri rj rq x_4475 I_4533 ) else (g_X12_nextToken_x_K332 J ri rj rq x_4475 I_4533 ))))))))))))))) else (ap1 (va_up I_4468 393 (2 : Int32)) fun (I_5189 : Nat → Int32) => (ap1 (va_up J 395 (0 : Int64)) fun (J_5194 : Nat → Int64) => (ap1 (I_5189 391) fun (y_5621 : Int32) => (g_X12_nextToken_x_L161 ri rj rq ((300 - (y_5621).toInt).toNat + 1) I_5189 J_5194)))))) else (ap1 (va_up I_4468 393 (1 : Int32)) fun (I_5626 : Nat → Int32) => (ap1 (va_up I_5626 394 (0 : Int32)) fun (I_5631 : Nat → Int32) => (ap1 (I_5631 391) fun (y_6009 : Int32) => (g_X12_nextToken_x_L85 J ri rj rq ((300 - (y_6009).toInt).toNat + 1) I_5631)))))) else (ap1 (va_up I_4468 393 (0 : Int32)) fun (I_6012 : Nat → Int32) => (I_6012, J, ri, rj, rq)))))))))))
set_option maxRecDepth 100000 in
theorem g_X12_nextToken_x_L0_e {J : Nat → Int64} {ri : Nat → Nat → Int32} {rj : Nat → Nat → Int64} {rq : Nat → Nat → Option Nat} {n_4421 : Nat} {I_3315 : Nat → Int32} : g_X12_nextToken_x_L0 J ri rj rq (n_4421 + 1) I_3315 = (ap1 (I_3315 391) fun (y_4427 : Int32) => (bnI (g_X12_see_x (y_4427) I_3315 J ri rj rq) fun (x_4428 : Int32) (_ : Nat → Int32) (_ : Nat → Int64) (_ : Nat → Nat → Int32) (_ : Nat → Nat → Int64) (_ : Nat → Nat → Option Nat) => (if x_4428 = (32 : Int32) then (ap1 ((y_4427) + (1 : Int32)) fun (x_4445 : Int32) => (ap1 (va_up I_3315 391 x_4445) fun (I_4447 : Nat → Int32) => ((g_X12_nextToken_x_L0 J ri rj rq n_4421) I_4447))) else (bnI (g_X12_see_x (y_4427) I_3315 J ri rj rq) fun (x_4453 : Int32) (_ : Nat → Int32) (_ : Nat → Int64) (_ : Nat → Nat → Int32) (_ : Nat → Nat → Int64) (_ : Nat → Nat → Option Nat) => (if x_4453 = (10 : Int32) then (ap1 ((y_4427) + (1 : Int32)) fun (x_6020 : Int32) => (ap1 (va_up I_3315 391 x_6020) fun (I_6022 : Nat → Int32) => ((g_X12_nextToken_x_L0 J ri rj rq n_4421) I_6022))) else (ap1 (va_up I_3315 392 (y_4427)) fun (I_4468 : Nat → Int32) => (ap1 (I_4468 391) fun (y_4474 : Int32) => (bnI (g_X12_see_x (y_4474) I_4468 J ri rj rq) fun (x_4475 : Int32) (_ : Nat → Int32) (_ : Nat → Int64) (_ : Nat → Nat → Int32) (_ : Nat → Nat → Int64) (_ : Nat → Nat → Option Nat) => (if (0 : Int32) ≤ x_4475 then (ap1 (g_X12_isDigit_x x_4475) fun (x_4492 : Int32) => (if x_4492 = (0 : Int32) then (ap1 (g_X12_isLetter_x x_4475) fun (x_4511 : Int32) => (if x_4511 = (0 : Int32) then (ap1 ((y_4474) + (1 : Int32)) fun (x_4531 : Int32) => (ap1 (va_up I_4468 391 x_4531) fun (I_4533 : Nat → Int32) => (if x_4475 = (60 : Int32) then (g_X12_nextToken_x_K327 J ri rj rq x_4475 I_4533 ) else (if x_4475 = (62 : Int32) then (g_X12_nextToken_x_K327 J ri rj rq x_4475 I_4533 ) else (if x_4475 = (61 : Int32) then (g_X12_nextToken_x_K327 J ri rj rq x_4475 I_4533 ) else (if x_4475 = (35 : Int32) then (g_X12_nextToken_x_K327 J ri rj rq x_4475 I_4533 ) else (if x_4475 = (43 : Int32) then (g_X12_nextToken_x_K327 J ri rj rq x_4475 I_4533 ) else (if x_4475 = (45 : Int32) then (g_X12_nextToken_x_K327 J ri rj rq x_4475 I_4533 ) else (if x_4475 = (42 : Int32) then (g_X12_nextToken_x_K327 J ri rj rq x_4475 I_4533 ) else (if x_4475 = (47 : Int32) then (g_X12_nextToken_x_K327 J ri rj rq x_4475 I_4533 ) else (if x_4475 = (40 : Int32) then (g_X12_nextToken_x_K327 J ri rj rq x_4475 I_4533 ) else (if x_4475 = (41 : Int32) then (g_X12_nextToken_x_K327 J ri rj rq x_4475 I_4533 ) else (if x_4475 = (44 : Int32) then (g_X12_nextToken_x_K327 J ri rj rq x_4475 I_4533 ) else (if x_4475 = (59 : Int32) then (g_X12_nextToken_x_K327 J ri rj rq x_4475 I_4533 ) else (g_X12_nextToken_x_K332 J ri rj rq x_4475 I_4533 ))))))))))))))) else (ap1 (va_up I_4468 393 (2 : Int32)) fun (I_5189 : Nat → Int32) => (ap1 (va_up J 395 (0 : Int64)) fun (J_5194 : Nat → Int64) => (ap1 (I_5189 391) fun (y_5621 : Int32) => (g_X12_nextToken_x_L161 ri rj rq ((300 - (y_5621).toInt).toNat + 1) I_5189 J_5194)))))) else (ap1 (va_up I_4468 393 (1 : Int32)) fun (I_5626 : Nat → Int32) => (ap1 (va_up I_5626 394 (0 : Int32)) fun (I_5631 : Nat → Int32) => (ap1 (I_5631 391) fun (y_6009 : Int32) => (g_X12_nextToken_x_L85 J ri rj rq ((300 - (y_6009).toInt).toNat + 1) I_5631)))))) else (ap1 (va_up I_4468 393 (0 : Int32)) fun (I_6012 : Nat → Int32) => (I_6012, J, ri, rj, rq))))))))))) := rfl
set_option maxRecDepth 100000 in
def g_X12_nextToken_x (I : Nat → Int32) (J : Nat → Int64) (ri : Nat → Nat → Int32) (rj : Nat → Nat → Int64) (rq : Nat → Nat → Option Nat) : vM := (ap1 (I 391) fun (y_6027 : Int32) => (g_X12_nextToken_x_L0 J ri rj rq ((300 - (y_6027).toInt).toNat + 1) I))
set_option maxRecDepth 100000 in
theorem g_X12_nextToken_x_e {I : Nat → Int32} {J : Nat → Int64} {ri : Nat → Nat → Int32} {rj : Nat → Nat → Int64} {rq : Nat → Nat → Option Nat} : g_X12_nextToken_x I J ri rj rq = (ap1 (I 391) fun (y_6027 : Int32) => (g_X12_nextToken_x_L0 J ri rj rq ((300 - (y_6027).toInt).toNat + 1) I)) := rfl
set_option maxHeartbeats 4000000 in
set_option maxRecDepth 100000 in
theorem s_X12_nextToken_x (l : Launch) (D : va_G) (t : pq_T) (σ : pq_S) (I : Nat → Nat → Int32) (J : Nat → Nat → Int64) (ri : Nat → Nat → Int32) (rj : Nat → Nat → Int64) (rq : Nat → Nat → Option Nat) (sz : Nat) (tg : Nat → Nat) (hSH : SH σ tg) (hG0 : GT tg I ri) (this : Nat) (hL_this : this ∈ σ.1) (hK_this : σ.2.1 this = 12) (this_tape : Nat) (hR_this_tape : σ.2.2.1 387 this = some this_tape) (hL_this_tape : this_tape ∈ σ.1) (hK_this_tape : σ.2.1 this_tape = 13) (hN_this_tape : σ.2.2.2 this_tape = 300) (hT_this_tape : tg this_tape = 387) : MetV l yX12_nextToken (wa yX12_nextToken cX12_nextToken 3 none) ({ frames := 2, cells := 0, slots := 0, locals := 42 }) [.ref this] D t σ (I, J, ri, rj, rq) sz 0 0 (fun (u : pq_S × pq_M) => ∃ I' : Nat → Nat → Int32, ∃ J' : Nat → Nat → Int64, u = (σ, I', J', ri, rj, rq) ∧ GM [391, 392, 393] tg σ I ri I' ri rq ∧ ((I 391 this).toInt ≤ (I' 391 this).toInt) ∧ ((I' 393 this).toInt = 0 ∨ (I 391 this).toInt + 1 ≤ (I' 391 this).toInt) ∧ ((I' 403 this).toInt = (I 403 this).toInt) ∧ g_X12_nextToken_x (vI 12 σ this I) (vJ 12 σ this J) (vR 12 σ this ri) (vL 12 σ this rj) (vQ 12 σ this rq) = ((vI 12 σ this I'), (vJ 12 σ this J'), (vR 12 σ this ri), (vL 12 σ this rj), (vQ 12 σ this rq)) ∧ FR 12 tg σ this (I, J, ri, rj, rq) (I', J', ri, rj, rq)) := by
  refine Met.ofW (cc := cX12_nextToken) (maxL := 3) (ret := none) (by decide +kernel) rfl ?_
  intro p e s m args below meth c s₁ B hml hv
  obtain ⟨rfl, hsz, hP, hK, hD0, hN⟩ := hv
  have hx := B.exec
  have hb := B.bytes
  have hr := B.returns
  have hts := atoms_spec (ws := (wa yX12_nextToken cX12_nextToken 3 none)) B.pre
  have hown : s.vm.findClass RX12 = some m.cls := findClass_of_methodNamed B.named
  have hlocks := B.notSynchronized
  subst hsz
  have hD : va_D (pq_B t σ (I, J, ri, rj, rq) s.heap.size) (pq_P t σ (I, J, ri, rj, rq)) := hD0.self
  generalize hAe : pq_B t σ (I, J, ri, rj, rq) s.heap.size = A at hD ⊢
  have hA : ∀ q : Nat, s.heap.size ≤ q → A q := fun q h => by rw [← hAe]; exact Or.inr h
  have hS : va_S A s.heap s.heap [] := va_S.rf
  have hG : GM [391, 392, 393] tg σ I ri I ri rq := ⟨hG0, fun _ _ _ => rfl, fun _ _ _ _ _ => rfl, fun _ _ _ _ _ _ => rfl⟩
  have hl := lv_entry ([.ref this]) (n := 3) (Nat.le_of_ble_eq_true rfl)
  rw [lg_entry_eq]
  generalize (lg_sl ([.ref this]) ++ List.replicate (3 - (lg_sl ([.ref this])).length) Slot.unset).toArray = ls at hl ⊢
  have hl : lv_has ls 3 [(0, .ref this)] := hl
  refine q_gen (fun Q hQ => ?_)
  have go : ∀ (H : Heap) (locs : List Loc) (ls : Array Slot), va_P D vwCl (pq_P t σ (I, J, ri, rj, rq)) H → va_D A (pq_P t σ (I, J, ri, rj, rq)) → va_S A s.heap H locs → lv_has ls 3 [(0, .ref this)] → W p l e ({ frames := 2, cells := 0, slots := 0, locals := 42 } : Room) s m (List.toArray ([.ref this] : List Value)) below meth c H locs 0 0 Q (F0 m 0 ls []) := by
    intro H locs ls hP hD hS hl
    have hO_this : this = vo σ 12 this := rfl
    have hVT : VT 12 σ tg this := vt_12 hSH hL_this hK_this
    have hFr : FR 12 tg σ this (I, J, ri, rj, rq) (I, J, ri, rj, rq) := fr_rf
    have hO_this_tape : this_tape = vrow σ 387 this := vo_k (c := 12) hO_this hR_this_tape
    obtain ⟨F, hF0⟩ : ∃ F, F = g_X12_nextToken_x (vI 12 σ this I) (vJ 12 σ this J) (vR 12 σ this ri) (vL 12 σ this rj) (vQ 12 σ this rq) := ⟨_, rfl⟩
    have hF := hF0.trans g_X12_nextToken_x_e
    have L_4422 : ∀ (n_4421 : Nat) (I_3315 : Nat → Nat → Int32) (H : Heap) (locs : List Loc) (ls : Array Slot), ((I 391 this).toInt ≤ (I_3315 391 this).toInt ∧ (I_3315 388 this).toInt = (I 388 this).toInt ∧ (I_3315 403 this).toInt = (I 403 this).toInt) → (300 - (I_3315 391 this).toInt).toNat < n_4421 → F = g_X12_nextToken_x_L0 (vJ 12 σ this J) (vR 12 σ this ri) (vL 12 σ this rj) (vQ 12 σ this rq) n_4421 (vI 12 σ this I_3315) → FR 12 tg σ this (I, J, ri, rj, rq) (I_3315, J, ri, rj, rq) → GM [391, 392, 393] tg σ I ri I_3315 ri rq → va_P D vwCl (pq_P t σ (I_3315, J, ri, rj, rq)) H → va_D A (pq_P t σ (I_3315, J, ri, rj, rq)) → va_S A s.heap H locs → lv_has ls 3 [(0, .ref this)] → W p l e ({ frames := 2, cells := 0, slots := 0, locals := 42 } : Room) s m (List.toArray ([.ref this] : List Value)) below meth c H locs 0 0 Q (F0 m 0 ls []) := by
      intro n_4421
      induction n_4421 with
      | zero => intro I_3315 H locs ls hrel_4425 hm_4420 hF hFr hG hP hD hS hl; exact absurd hm_4420 (Nat.not_lt_zero _)
      | succ n_4421 ih_4423 =>
        intro I_3315 H locs ls hrel_4425 hm_4420 hF hFr hG hP hD hS hl
        replace hF := hF.trans g_X12_nextToken_x_L0_e
        refine lv_aload_n hx hb dX12_nextToken_0 rfl (lv_at hl 0 rfl) ?_
        refine lv_aload_n hx hb dX12_nextToken_1 rfl (lv_at hl 0 rfl) ?_
        refine pg_f (v := .int (I_3315 391 this)) (C := RX12) (T := TX12) (N := 31) hx hb hts (tw_i inlX12) hown hK hP hL_this hK_this (by decide +kernel) rfl 7 (by decide +kernel) (hts _ (tw_c tw_830)) rfl dX12_nextToken_2 ?_
        have h_4426 : rg (I_3315 391 this) 0 300 := GM.rI hG 391 rfl
        have uh_4426 := h_4426.1
        have vh_4426 := h_4426.2
        replace hF := hF.trans (ap_n (vI_e (f := 391) hO_this (by decide +kernel)))
        refine pk_i (va_runV (As := [.int (I_3315 391 this)]) (rest := []) ⟨hx, hb, hml, hown, hts⟩ (s_X12_see_x l D t σ I_3315 J ri rj rq H.size tg hSH hG.1 this (I_3315 391 this) hL_this hK_this (rg_w h_4426 (by decide +kernel)) this_tape hR_this_tape hL_this_tape hK_this_tape hN_this_tape hT_this_tape) (cwV 1 hts (tw_V tw_839 tw_840 tw_841 tw_5 tw_842) rfl rfl rfl cv_yX12_see_1 ⟨Nat.le_of_ble_eq_true rfl, Nat.le_of_ble_eq_true rfl⟩) ⟨pq_blind, pq_recv hK hP hL_this hK_this (by decide +kernel) rfl, pq_pre hK hN hP hD⟩ rfl rfl hl.1 rfl (lv_room (Nat.le_of_ble_eq_true rfl)) dX12_nextToken_5 ⟨Nat.le_of_ble_eq_true rfl, Nat.le_of_ble_eq_true rfl⟩) hD hS hA (fun x_4428 σ1 μ1 H locs hw_4429 hP hD hS => ?_)
        obtain ⟨hu_4430, hp_4433, hfn_4434, hr_4432⟩ := hw_4429
        obtain ⟨hu_4430a, hu_4430b⟩ := Prod.mk.inj hu_4430
        rw [hu_4430a, hu_4430b] at hP hD
        replace hF := hF.trans (bn_n hfn_4434)
        have tt_4436 : ((x_4428).toInt = -1 ∧ (I_3315 388 this).toInt ≤ (I_3315 391 this).toInt) ∨ (0 ≤ (x_4428).toInt ∧ (I_3315 391 this).toInt < (I_3315 388 this).toInt) := hp_4433.elim Or.inl (fun q => Or.inr q.2)
        have tt_4437 := (GM.rI hG 388 (a := this) (lo := 0) (hi := 300) rfl).2
        refine lv_bipush (v := 32) hx hb dX12_nextToken_8 (by decide +kernel) ?_
        refine lv_icmp_eq (tgt := 26) hx hb dX12_nextToken_10 (by decide +kernel) (fun c_4438 => ?_) (fun c_4438 => ?_)
        · replace hF := hF.trans (if_pos c_4438)
          have tc_4442 : (x_4428).toInt = 32 := congrArg Int32.toInt c_4438
          have h_4443 : rg x_4428 32 32 := rg_and hr_4432 (rg_of_eq c_4438 (rg_k (32 : Int32) 32 rfl)) (by decide +kernel)
          have uh_4443 := h_4443.1
          have vh_4443 := h_4443.2
          refine lv_aload_n hx hb dX12_nextToken_26 rfl (lv_at hl 0 rfl) ?_
          refine lv_dup hx hb dX12_nextToken_27 rfl ?_
          refine pg_f (v := .int (I_3315 391 this)) (C := RX12) (T := TX12) (N := 31) hx hb hts (tw_i inlX12) hown hK hP hL_this hK_this (by decide +kernel) rfl 7 (by decide +kernel) (hts _ (tw_c tw_830)) rfl dX12_nextToken_28 ?_
          refine lv_iconst (v := 1) hx hb dX12_nextToken_31 (by decide +kernel) ?_
          have h_4444 : rg (I_3315 391 this) 0 299 := ⟨by omega, by omega⟩
          have uh_4444 := h_4444.1
          have vh_4444 := h_4444.2
          refine lv_iadd hx hb dX12_nextToken_32 ?_
          refine lv_topi (fun x_4445 ex_4445 => ?_)
          replace hF := hF.trans (ap_n ex_4445)
          have h_4446 : rg x_4445 1 300 := rg_of_eq ex_4445 (rg_add h_4444 (rg_k (1 : Int32) 1 rfl) (by decide +kernel))
          have uh_4446 := h_4446.1
          have vh_4446 := h_4446.2
          have tx_4445 : (x_4445).toInt = (I_3315 391 this).toInt + 1 := by rw [ex_4445]; exact i_add_rg (a2 := (I_3315 391 this).toInt) (b2 := 1) rfl rfl h_4444 (rg_k (1 : Int32) 1 rfl) (by decide +kernel)
          refine pp_i (v := x_4445) (ty := .int) (C := RX12) (T := TX12) (N := 31) hx hb hts (tw_i inlX12) tyX12 tyX12_ok nmX12 hown hK hP hD hS hL_this hK_this (by decide +kernel) rfl 7 391 (by decide +kernel) (hts _ (tw_c tw_830)) rfl (tyX12_ok 7 (by decide +kernel)) rfl rfl (Nat.le_of_ble_eq_true rfl) (ps_391 _ _ _ _ _) dX12_nextToken_33 (fun I_4447 H locs eI_4447 hP hD hS => ?_)
          replace hFr := fr_I (f := 391) hFr hO_this (by decide +kernel) eI_4447
          replace hF := hF.trans (ap_n (vI_st (f := 391) hO_this (by decide +kernel) eI_4447))
          have hG := GM.wI hG 391 rfl eI_4447 (rg_w h_4446 (by decide +kernel)) (by decide +kernel)
          have tt_4448 : (I_4447 391 this).toInt = (x_4445).toInt := by rw [eI_4447, pq_us]
          have tt_4449 : (I_4447 388 this).toInt = (I_3315 388 this).toInt := by rw [eI_4447, pq_uf _ _ _ (by decide +kernel)]
          have tt_4450 : (I_4447 403 this).toInt = (I_3315 403 this).toInt := by rw [eI_4447, pq_uf _ _ _ (by decide +kernel)]
          have tt_4451 : (I_4447 393 this).toInt = (I_3315 393 this).toInt := by rw [eI_4447, pq_uf _ _ _ (by decide +kernel)]
          refine lv_goto (tgt := 0) hx hb dX12_nextToken_36 (by decide +kernel) ?_
          exact ih_4423 I_4447 _ _ _ (by omega) (ms_fu_iadd hm_4420 (by rw [eI_4447]; exact pq_us _ _ _ _) ex_4445 rfl (kk := 1) rfl (by decide +kernel) h_4444 (by decide +kernel) (by decide +kernel)) hF hFr hG hP hD hS (lv_sub hl [0] rfl)
        · replace hF := hF.trans (if_neg c_4438)
          have tc_4452 : (x_4428).toInt ≠ 32 := fun q => c_4438 (Int32.toInt_inj.mp q)
          refine lv_aload_n hx hb dX12_nextToken_13 rfl (lv_at hl 0 rfl) ?_
          refine lv_aload_n hx hb dX12_nextToken_14 rfl (lv_at hl 0 rfl) ?_
          refine pg_f (v := .int (I_3315 391 this)) (C := RX12) (T := TX12) (N := 31) hx hb hts (tw_i inlX12) hown hK hP hL_this hK_this (by decide +kernel) rfl 7 (by decide +kernel) (hts _ (tw_c tw_830)) rfl dX12_nextToken_15 ?_
          refine pk_i (va_runV (As := [.int (I_3315 391 this)]) (rest := []) ⟨hx, hb, hml, hown, hts⟩ (s_X12_see_x l D t σ I_3315 J ri rj rq H.size tg hSH hG.1 this (I_3315 391 this) hL_this hK_this (rg_w h_4426 (by decide +kernel)) this_tape hR_this_tape hL_this_tape hK_this_tape hN_this_tape hT_this_tape) (cwV 1 hts (tw_V tw_839 tw_840 tw_841 tw_5 tw_842) rfl rfl rfl cv_yX12_see_1 ⟨Nat.le_of_ble_eq_true rfl, Nat.le_of_ble_eq_true rfl⟩) ⟨pq_blind, pq_recv hK hP hL_this hK_this (by decide +kernel) rfl, pq_pre hK hN hP hD⟩ rfl rfl hl.1 rfl (lv_room (Nat.le_of_ble_eq_true rfl)) dX12_nextToken_18 ⟨Nat.le_of_ble_eq_true rfl, Nat.le_of_ble_eq_true rfl⟩) hD hS hA (fun x_4453 σ1 μ1 H locs hw_4454 hP hD hS => ?_)
          obtain ⟨hu_4455, hp_4458, hfn_4459, hr_4457⟩ := hw_4454
          obtain ⟨hu_4455a, hu_4455b⟩ := Prod.mk.inj hu_4455
          rw [hu_4455a, hu_4455b] at hP hD
          replace hF := hF.trans (bn_n hfn_4459)
          have tt_4461 : ((x_4453).toInt = -1 ∧ (I_3315 388 this).toInt ≤ (I_3315 391 this).toInt) ∨ (0 ≤ (x_4453).toInt ∧ (I_3315 391 this).toInt < (I_3315 388 this).toInt) := hp_4458.elim Or.inl (fun q => Or.inr q.2)
          have tt_4462 := (GM.rI hG 388 (a := this) (lo := 0) (hi := 300) rfl).2
          refine lv_bipush (v := 10) hx hb dX12_nextToken_21 (by decide +kernel) ?_
          refine lv_icmp_ne (tgt := 39) hx hb dX12_nextToken_23 (by decide +kernel) (fun c_4463 => ?_) (fun c_4463 => ?_)
          · replace hF := hF.trans (if_neg c_4463)
            have tc_4467 : (x_4453).toInt ≠ 10 := fun q => c_4463 (Int32.toInt_inj.mp q)
            refine lv_aload_n hx hb dX12_nextToken_39 rfl (lv_at hl 0 rfl) ?_
            refine lv_aload_n hx hb dX12_nextToken_40 rfl (lv_at hl 0 rfl) ?_
            refine pg_f (v := .int (I_3315 391 this)) (C := RX12) (T := TX12) (N := 31) hx hb hts (tw_i inlX12) hown hK hP hL_this hK_this (by decide +kernel) rfl 7 (by decide +kernel) (hts _ (tw_c tw_830)) rfl dX12_nextToken_41 ?_
            refine pp_i (v := (I_3315 391 this)) (ty := .int) (C := RX12) (T := TX12) (N := 31) hx hb hts (tw_i inlX12) tyX12 tyX12_ok nmX12 hown hK hP hD hS hL_this hK_this (by decide +kernel) rfl 8 392 (by decide +kernel) (hts _ (tw_c tw_820)) rfl (tyX12_ok 8 (by decide +kernel)) rfl rfl (Nat.le_of_ble_eq_true rfl) (ps_392 _ _ _ _ _) dX12_nextToken_44 (fun I_4468 H locs eI_4468 hP hD hS => ?_)
            replace hFr := fr_I (f := 392) hFr hO_this (by decide +kernel) eI_4468
            replace hF := hF.trans (ap_n (vI_st (f := 392) hO_this (by decide +kernel) eI_4468))
            have hG := GM.wI hG 392 rfl eI_4468 (rg_w h_4426 (by decide +kernel)) (by decide +kernel)
            have tt_4469 : (I_4468 391 this).toInt = (I_3315 391 this).toInt := by rw [eI_4468, pq_uf _ _ _ (by decide +kernel)]
            have tt_4470 : (I_4468 388 this).toInt = (I_3315 388 this).toInt := by rw [eI_4468, pq_uf _ _ _ (by decide +kernel)]
            have tt_4471 : (I_4468 403 this).toInt = (I_3315 403 this).toInt := by rw [eI_4468, pq_uf _ _ _ (by decide +kernel)]
            have tt_4472 : (I_4468 393 this).toInt = (I_3315 393 this).toInt := by rw [eI_4468, pq_uf _ _ _ (by decide +kernel)]
            refine lv_aload_n hx hb dX12_nextToken_47 rfl (lv_at hl 0 rfl) ?_
            refine lv_aload_n hx hb dX12_nextToken_48 rfl (lv_at hl 0 rfl) ?_
            refine pg_f (v := .int (I_4468 391 this)) (C := RX12) (T := TX12) (N := 31) hx hb hts (tw_i inlX12) hown hK hP hL_this hK_this (by decide +kernel) rfl 7 (by decide +kernel) (hts _ (tw_c tw_830)) rfl dX12_nextToken_49 ?_
            have h_4473 : rg (I_4468 391 this) 0 300 := GM.rI hG 391 rfl
            have uh_4473 := h_4473.1
            have vh_4473 := h_4473.2
            replace hF := hF.trans (ap_n (vI_e (f := 391) hO_this (by decide +kernel)))
            refine pk_i (va_runV (As := [.int (I_4468 391 this)]) (rest := []) ⟨hx, hb, hml, hown, hts⟩ (s_X12_see_x l D t σ I_4468 J ri rj rq H.size tg hSH hG.1 this (I_4468 391 this) hL_this hK_this (rg_w h_4473 (by decide +kernel)) this_tape hR_this_tape hL_this_tape hK_this_tape hN_this_tape hT_this_tape) (cwV 1 hts (tw_V tw_839 tw_840 tw_841 tw_5 tw_842) rfl rfl rfl cv_yX12_see_1 ⟨Nat.le_of_ble_eq_true rfl, Nat.le_of_ble_eq_true rfl⟩) ⟨pq_blind, pq_recv hK hP hL_this hK_this (by decide +kernel) rfl, pq_pre hK hN hP hD⟩ rfl rfl hl.1 rfl (lv_room (Nat.le_of_ble_eq_true rfl)) dX12_nextToken_52 ⟨Nat.le_of_ble_eq_true rfl, Nat.le_of_ble_eq_true rfl⟩) hD hS hA (fun x_4475 σ1 μ1 H locs hw_4476 hP hD hS => ?_)
            obtain ⟨hu_4477, hp_4480, hfn_4481, hr_4479⟩ := hw_4476
            obtain ⟨hu_4477a, hu_4477b⟩ := Prod.mk.inj hu_4477
            rw [hu_4477a, hu_4477b] at hP hD
            replace hF := hF.trans (bn_n hfn_4481)
            have tt_4483 : ((x_4475).toInt = -1 ∧ (I_4468 388 this).toInt ≤ (I_4468 391 this).toInt) ∨ (0 ≤ (x_4475).toInt ∧ (I_4468 391 this).toInt < (I_4468 388 this).toInt) := hp_4480.elim Or.inl (fun q => Or.inr q.2)
            have tt_4484 := (GM.rI hG 388 (a := this) (lo := 0) (hi := 300) rfl).2
            refine lv_istore_n (lv' := [(1, .int x_4475), (0, .ref this)]) hx hb dX12_nextToken_55 rfl hl (by decide +kernel) rfl (fun ls hl => ?_)
            refine lv_iload_n hx hb dX12_nextToken_56 rfl (lv_at hl 0 rfl) ?_
            refine lv_if_ge (tgt := 68) hx hb dX12_nextToken_57 (by decide +kernel) (fun c_4485 => ?_) (fun c_4485 => ?_)
            · replace hF := hF.trans (if_pos c_4485)
              have tc_4490 : 0 ≤ (x_4475).toInt := Int32.le_iff_toInt_le.mp c_4485
              have h_4491 : rg x_4475 0 255 := rg_le2 c_4485 (rg_k (0 : Int32) 0 rfl) hr_4479 (by decide +kernel)
              have uh_4491 := h_4491.1
              have vh_4491 := h_4491.2
              refine lv_iload_n hx hb dX12_nextToken_68 rfl (lv_at hl 0 rfl) ?_
              refine pk_i (va_runS (As := [.int x_4475]) (rest := []) ⟨hx, hb, hml, hown, hts⟩ (s_X12_isDigit_x l D t σ I_4468 J ri rj rq H.size tg hSH hG.1 x_4475) (va_cwS 1 hts (tw_S tw_843 tw_844 tw_5 tw_845) rfl rfl rfl cd_yX12_isDigit_1 ⟨Nat.le_of_ble_eq_true rfl, Nat.le_of_ble_eq_true rfl⟩) ⟨pq_blind, pq_pre hK hN hP hD⟩ rfl rfl hl.1 rfl (lv_room (Nat.le_of_ble_eq_true rfl)) dX12_nextToken_69 ⟨Nat.le_of_ble_eq_true rfl, Nat.le_of_ble_eq_true rfl⟩) hD hS hA (fun x_4492 σ1 μ1 H locs hw_4493 hP hD hS => ?_)
              obtain ⟨hu_4494, hfn_4497, hr_4496⟩ := hw_4493
              obtain ⟨hu_4494a, hu_4494b⟩ := Prod.mk.inj hu_4494
              rw [hu_4494a, hu_4494b] at hP hD
              replace hF := hF.trans (ap_n hfn_4497.symm)
              have h_4499 : rg x_4492 0 1 := by rcases hr_4496 with ⟨q, -⟩ | ⟨q, -⟩ <;> rw [q] <;> exact ⟨by decide +kernel, by decide +kernel⟩
              have uh_4499 := h_4499.1
              have vh_4499 := h_4499.2
              refine lv_if_eq (tgt := 144) hx hb dX12_nextToken_72 (by decide +kernel) (fun c_4500 => ?_) (fun c_4500 => ?_)
              · replace hF := hF.trans (if_pos c_4500)
                have f_4508 := (hr_4496.resolve_left (fun q => absurd (q.1.symm.trans c_4500) (by decide +kernel))).2
                have tc_4509 : (x_4492).toInt = 0 := congrArg Int32.toInt c_4500
                have h_4510 : rg x_4492 0 0 := rg_and h_4499 (rg_of_eq c_4500 (rg_k (0 : Int32) 0 rfl)) (by decide +kernel)
                have uh_4510 := h_4510.1
                have vh_4510 := h_4510.2
                refine lv_iload_n hx hb dX12_nextToken_144 rfl (lv_at hl 0 rfl) ?_
                refine pk_i (va_runS (As := [.int x_4475]) (rest := []) ⟨hx, hb, hml, hown, hts⟩ (s_X12_isLetter_x l D t σ I_4468 J ri rj rq H.size tg hSH hG.1 x_4475) (va_cwS 1 hts (tw_S tw_846 tw_847 tw_5 tw_848) rfl rfl rfl cd_yX12_isLetter_1 ⟨Nat.le_of_ble_eq_true rfl, Nat.le_of_ble_eq_true rfl⟩) ⟨pq_blind, pq_pre hK hN hP hD⟩ rfl rfl hl.1 rfl (lv_room (Nat.le_of_ble_eq_true rfl)) dX12_nextToken_145 ⟨Nat.le_of_ble_eq_true rfl, Nat.le_of_ble_eq_true rfl⟩) hD hS hA (fun x_4511 σ1 μ1 H locs hw_4512 hP hD hS => ?_)
                obtain ⟨hu_4513, hfn_4516, hr_4515⟩ := hw_4512
                obtain ⟨hu_4513a, hu_4513b⟩ := Prod.mk.inj hu_4513
                rw [hu_4513a, hu_4513b] at hP hD
                replace hF := hF.trans (ap_n hfn_4516.symm)
                have h_4518 : rg x_4511 0 1 := by rcases hr_4515 with ⟨q, -⟩ | ⟨q, -⟩ <;> rw [q] <;> exact ⟨by decide +kernel, by decide +kernel⟩
                have uh_4518 := h_4518.1
                have vh_4518 := h_4518.2
                refine lv_if_eq (tgt := 245) hx hb dX12_nextToken_148 (by decide +kernel) (fun c_4519 => ?_) (fun c_4519 => ?_)
                · replace hF := hF.trans (if_pos c_4519)
                  have f_4527 := (hr_4515.resolve_left (fun q => absurd (q.1.symm.trans c_4519) (by decide +kernel))).2
                  have tc_4528 : (x_4511).toInt = 0 := congrArg Int32.toInt c_4519
                  have h_4529 : rg x_4511 0 0 := rg_and h_4518 (rg_of_eq c_4519 (rg_k (0 : Int32) 0 rfl)) (by decide +kernel)
                  have uh_4529 := h_4529.1
                  have vh_4529 := h_4529.2
                  refine lv_aload_n hx hb dX12_nextToken_245 rfl (lv_at hl 1 rfl) ?_
                  refine lv_dup hx hb dX12_nextToken_246 rfl ?_
                  refine pg_f (v := .int (I_4468 391 this)) (C := RX12) (T := TX12) (N := 31) hx hb hts (tw_i inlX12) hown hK hP hL_this hK_this (by decide +kernel) rfl 7 (by decide +kernel) (hts _ (tw_c tw_830)) rfl dX12_nextToken_247 ?_
                  refine lv_iconst (v := 1) hx hb dX12_nextToken_250 (by decide +kernel) ?_
                  have h_4530 : rg (I_4468 391 this) 0 299 := ⟨by omega, by omega⟩
                  have uh_4530 := h_4530.1
                  have vh_4530 := h_4530.2
                  refine lv_iadd hx hb dX12_nextToken_251 ?_
                  refine lv_topi (fun x_4531 ex_4531 => ?_)
                  replace hF := hF.trans (ap_n ex_4531)
                  have h_4532 : rg x_4531 1 300 := rg_of_eq ex_4531 (rg_add h_4530 (rg_k (1 : Int32) 1 rfl) (by decide +kernel))
                  have uh_4532 := h_4532.1
                  have vh_4532 := h_4532.2
                  have tx_4531 : (x_4531).toInt = (I_4468 391 this).toInt + 1 := by rw [ex_4531]; exact i_add_rg (a2 := (I_4468 391 this).toInt) (b2 := 1) rfl rfl h_4530 (rg_k (1 : Int32) 1 rfl) (by decide +kernel)
                  refine pp_i (v := x_4531) (ty := .int) (C := RX12) (T := TX12) (N := 31) hx hb hts (tw_i inlX12) tyX12 tyX12_ok nmX12 hown hK hP hD hS hL_this hK_this (by decide +kernel) rfl 7 391 (by decide +kernel) (hts _ (tw_c tw_830)) rfl (tyX12_ok 7 (by decide +kernel)) rfl rfl (Nat.le_of_ble_eq_true rfl) (ps_391 _ _ _ _ _) dX12_nextToken_252 (fun I_4533 H locs eI_4533 hP hD hS => ?_)
                  replace hFr := fr_I (f := 391) hFr hO_this (by decide +kernel) eI_4533
                  replace hF := hF.trans (ap_n (vI_st (f := 391) hO_this (by decide +kernel) eI_4533))
                  have hG := GM.wI hG 391 rfl eI_4533 (rg_w h_4532 (by decide +kernel)) (by decide +kernel)
                  have tt_4534 : (I_4533 391 this).toInt = (x_4531).toInt := by rw [eI_4533, pq_us]
                  have tt_4535 : (I_4533 388 this).toInt = (I_4468 388 this).toInt := by rw [eI_4533, pq_uf _ _ _ (by decide +kernel)]
                  have tt_4536 : (I_4533 403 this).toInt = (I_4468 403 this).toInt := by rw [eI_4533, pq_uf _ _ _ (by decide +kernel)]
                  have tt_4537 : (I_4533 393 this).toInt = (I_4468 393 this).toInt := by rw [eI_4533, pq_uf _ _ _ (by decide +kernel)]
                  refine lv_iload_n hx hb dX12_nextToken_255 rfl (lv_at hl 0 rfl) ?_
                  refine lv_bipush (v := 60) hx hb dX12_nextToken_256 (by decide +kernel) ?_
                  have K_4745 : ∀  (H : Heap) (locs : List Loc) (ls : Array Slot), F = g_X12_nextToken_x_K332 (vJ 12 σ this J) (vR 12 σ this ri) (vL 12 σ this rj) (vQ 12 σ this rq) x_4475 (vI 12 σ this I_4533)  → FR 12 tg σ this (I, J, ri, rj, rq) (I_4533, J, ri, rj, rq) → GM [391, 392, 393] tg σ I ri I_4533 ri rq → va_P D vwCl (pq_P t σ (I_4533, J, ri, rj, rq)) H → va_D A (pq_P t σ (I_4533, J, ri, rj, rq)) → va_S A s.heap H locs → lv_has ls 3 [(0, .ref this), (1, .int x_4475)] → W p l e ({ frames := 2, cells := 0, slots := 0, locals := 42 } : Room) s m (List.toArray ([.ref this] : List Value)) below meth c H locs 0 0 Q (F0 m 332 ls [.int 0]) := by
                    intro H locs ls hF hFr hG hP hD hS hl
                    replace hF := hF.trans g_X12_nextToken_x_K332_e
                    refine lv_istore_n (lv' := [(2, .int 0), (0, .ref this), (1, .int x_4475)]) hx hb dX12_nextToken_332 rfl hl (by decide +kernel) rfl (fun ls hl => ?_)
                    refine lv_aload_n hx hb dX12_nextToken_333 rfl (lv_at hl 1 rfl) ?_
                    refine lv_iload_n hx hb dX12_nextToken_334 rfl (lv_at hl 0 rfl) ?_
                    have K_4824 : ∀  (H : Heap) (locs : List Loc) (ls : Array Slot), F = g_X12_nextToken_x_K343 (vJ 12 σ this J) (vR 12 σ this ri) (vL 12 σ this rj) (vQ 12 σ this rq) x_4475 (vI 12 σ this I_4533)  → FR 12 tg σ this (I, J, ri, rj, rq) (I_4533, J, ri, rj, rq) → GM [391, 392, 393] tg σ I ri I_4533 ri rq → va_P D vwCl (pq_P t σ (I_4533, J, ri, rj, rq)) H → va_D A (pq_P t σ (I_4533, J, ri, rj, rq)) → va_S A s.heap H locs → lv_has ls 3 [(0, .ref this), (1, .int x_4475)] → W p l e ({ frames := 2, cells := 0, slots := 0, locals := 42 } : Room) s m (List.toArray ([.ref this] : List Value)) below meth c H locs 0 0 Q (F0 m 343 ls [.int 3, .ref this]) := by
                      intro H locs ls hF hFr hG hP hD hS hl
                      replace hF := hF.trans g_X12_nextToken_x_K343_e
                      refine pp_i (v := 3) (ty := .int) (C := RX12) (T := TX12) (N := 31) hx hb hts (tw_i inlX12) tyX12 tyX12_ok nmX12 hown hK hP hD hS hL_this hK_this (by decide +kernel) rfl 9 393 (by decide +kernel) (hts _ (tw_c tw_831)) rfl (tyX12_ok 9 (by decide +kernel)) rfl rfl (Nat.le_of_ble_eq_true rfl) (ps_393 _ _ _ _ _) dX12_nextToken_343 (fun I_4825 H locs eI_4825 hP hD hS => ?_)
                      replace hFr := fr_I (f := 393) hFr hO_this (by decide +kernel) eI_4825
                      replace hF := hF.trans (ap_n (vI_st (f := 393) hO_this (by decide +kernel) eI_4825))
                      have hG := GM.wI hG 393 rfl eI_4825 (rg_w (rg_k (3 : Int32) 3 rfl) (by decide +kernel)) (by decide +kernel)
                      have tt_4826 : (I_4825 391 this).toInt = (I_4533 391 this).toInt := by rw [eI_4825, pq_uf _ _ _ (by decide +kernel)]
                      have tt_4827 : (I_4825 388 this).toInt = (I_4533 388 this).toInt := by rw [eI_4825, pq_uf _ _ _ (by decide +kernel)]
                      have tt_4828 : (I_4825 403 this).toInt = (I_4533 403 this).toInt := by rw [eI_4825, pq_uf _ _ _ (by decide +kernel)]
                      have tt_4829 : (I_4825 393 this).toInt = 3 := by rw [eI_4825, pq_us]; rfl
                      refine lv_iload_n hx hb dX12_nextToken_346 rfl (lv_at hl 1 rfl) ?_
                      refine lv_bipush (v := 60) hx hb dX12_nextToken_347 (by decide +kernel) ?_
                      refine lv_icmp_eq (tgt := 358) hx hb dX12_nextToken_349 (by decide +kernel) (fun c_4830 => ?_) (fun c_4830 => ?_)
                      · replace hF := hF.trans (if_pos c_4830)
                        have tc_4834 : (x_4475).toInt = 60 := congrArg Int32.toInt c_4830
                        have h_4835 : rg x_4475 60 60 := rg_and h_4491 (rg_of_eq c_4830 (rg_k (60 : Int32) 60 rfl)) (by decide +kernel)
                        have uh_4835 := h_4835.1
                        have vh_4835 := h_4835.2
                        refine lv_aload_n hx hb dX12_nextToken_358 rfl (lv_at hl 0 rfl) ?_
                        refine lv_aload_n hx hb dX12_nextToken_359 rfl (lv_at hl 0 rfl) ?_
                        refine pg_f (v := .int (I_4825 391 this)) (C := RX12) (T := TX12) (N := 31) hx hb hts (tw_i inlX12) hown hK hP hL_this hK_this (by decide +kernel) rfl 7 (by decide +kernel) (hts _ (tw_c tw_830)) rfl dX12_nextToken_360 ?_
                        have h_4836 : rg (I_4825 391 this) 1 300 := (by rw [eI_4825, pq_uf _ _ _ (by decide +kernel)]; exact (by rw [eI_4533, pq_us]; exact h_4532))
                        have uh_4836 := h_4836.1
                        have vh_4836 := h_4836.2
                        replace hF := hF.trans (ap_n (vI_e (f := 391) hO_this (by decide +kernel)))
                        refine pk_i (va_runV (As := [.int (I_4825 391 this)]) (rest := []) ⟨hx, hb, hml, hown, hts⟩ (s_X12_see_x l D t σ I_4825 J ri rj rq H.size tg hSH hG.1 this (I_4825 391 this) hL_this hK_this (rg_w h_4836 (by decide +kernel)) this_tape hR_this_tape hL_this_tape hK_this_tape hN_this_tape hT_this_tape) (cwV 1 hts (tw_V tw_839 tw_840 tw_841 tw_5 tw_842) rfl rfl rfl cv_yX12_see_1 ⟨Nat.le_of_ble_eq_true rfl, Nat.le_of_ble_eq_true rfl⟩) ⟨pq_blind, pq_recv hK hP hL_this hK_this (by decide +kernel) rfl, pq_pre hK hN hP hD⟩ rfl rfl hl.1 rfl (lv_room (Nat.le_of_ble_eq_true rfl)) dX12_nextToken_363 ⟨Nat.le_of_ble_eq_true rfl, Nat.le_of_ble_eq_true rfl⟩) hD hS hA (fun x_4838 σ1 μ1 H locs hw_4839 hP hD hS => ?_)
                        obtain ⟨hu_4840, hp_4843, hfn_4844, hr_4842⟩ := hw_4839
                        obtain ⟨hu_4840a, hu_4840b⟩ := Prod.mk.inj hu_4840
                        rw [hu_4840a, hu_4840b] at hP hD
                        replace hF := hF.trans (bn_n hfn_4844)
                        have tt_4846 : ((x_4838).toInt = -1 ∧ (I_4825 388 this).toInt ≤ (I_4825 391 this).toInt) ∨ (0 ≤ (x_4838).toInt ∧ (I_4825 391 this).toInt < (I_4825 388 this).toInt) := hp_4843.elim Or.inl (fun q => Or.inr q.2)
                        have tt_4847 := (GM.rI hG 388 (a := this) (lo := 0) (hi := 300) rfl).2
                        refine lv_bipush (v := 61) hx hb dX12_nextToken_366 (by decide +kernel) ?_
                        refine lv_icmp_ne (tgt := 396) hx hb dX12_nextToken_368 (by decide +kernel) (fun c_4848 => ?_) (fun c_4848 => ?_)
                        · replace hF := hF.trans (if_neg c_4848)
                          have tc_4852 : (x_4838).toInt ≠ 61 := fun q => c_4848 (Int32.toInt_inj.mp q)
                          subst hQ
                          exact W.vret hx hb hr (fun t1 ht hW => ⟨⟨(σ, I_4825, J, ri, rj, rq), rfl, ⟨I_4825, J, rfl, hG, (by omega), (by omega), (by omega), (hF0.symm.trans hF), hFr⟩, by rw [ht]; exact hP, va_K.moved hW.alike hK, hD⟩, hS.F ht⟩) hS.2.2 dX12_nextToken_396
                        · replace hF := hF.trans (if_pos c_4848)
                          have tc_4853 : (x_4838).toInt = 61 := congrArg Int32.toInt c_4848
                          have h_4854 : rg x_4838 61 61 := rg_and hr_4842 (rg_of_eq c_4848 (rg_k (61 : Int32) 61 rfl)) (by decide +kernel)
                          have uh_4854 := h_4854.1
                          have vh_4854 := h_4854.2
                          refine lv_aload_n hx hb dX12_nextToken_371 rfl (lv_at hl 0 rfl) ?_
                          refine lv_dup hx hb dX12_nextToken_372 rfl ?_
                          refine pg_f (v := .int (I_4825 391 this)) (C := RX12) (T := TX12) (N := 31) hx hb hts (tw_i inlX12) hown hK hP hL_this hK_this (by decide +kernel) rfl 7 (by decide +kernel) (hts _ (tw_c tw_830)) rfl dX12_nextToken_373 ?_
                          refine lv_iconst (v := 1) hx hb dX12_nextToken_376 (by decide +kernel) ?_
                          have h_4855 : rg (I_4825 391 this) 0 299 := ⟨by omega, by omega⟩
                          have uh_4855 := h_4855.1
                          have vh_4855 := h_4855.2
                          refine lv_iadd hx hb dX12_nextToken_377 ?_
                          refine lv_topi (fun x_4856 ex_4856 => ?_)
                          replace hF := hF.trans (ap_n ex_4856)
                          have h_4857 : rg x_4856 1 300 := rg_of_eq ex_4856 (rg_add h_4855 (rg_k (1 : Int32) 1 rfl) (by decide +kernel))
                          have uh_4857 := h_4857.1
                          have vh_4857 := h_4857.2
                          have tx_4856 : (x_4856).toInt = (I_4825 391 this).toInt + 1 := by rw [ex_4856]; exact i_add_rg (a2 := (I_4825 391 this).toInt) (b2 := 1) rfl rfl h_4855 (rg_k (1 : Int32) 1 rfl) (by decide +kernel)
                          refine pp_i (v := x_4856) (ty := .int) (C := RX12) (T := TX12) (N := 31) hx hb hts (tw_i inlX12) tyX12 tyX12_ok nmX12 hown hK hP hD hS hL_this hK_this (by decide +kernel) rfl 7 391 (by decide +kernel) (hts _ (tw_c tw_830)) rfl (tyX12_ok 7 (by decide +kernel)) rfl rfl (Nat.le_of_ble_eq_true rfl) (ps_391 _ _ _ _ _) dX12_nextToken_378 (fun I_4858 H locs eI_4858 hP hD hS => ?_)
                          replace hFr := fr_I (f := 391) hFr hO_this (by decide +kernel) eI_4858
                          replace hF := hF.trans (ap_n (vI_st (f := 391) hO_this (by decide +kernel) eI_4858))
                          have hG := GM.wI hG 391 rfl eI_4858 (rg_w h_4857 (by decide +kernel)) (by decide +kernel)
                          have tt_4859 : (I_4858 391 this).toInt = (x_4856).toInt := by rw [eI_4858, pq_us]
                          have tt_4860 : (I_4858 388 this).toInt = (I_4825 388 this).toInt := by rw [eI_4858, pq_uf _ _ _ (by decide +kernel)]
                          have tt_4861 : (I_4858 403 this).toInt = (I_4825 403 this).toInt := by rw [eI_4858, pq_uf _ _ _ (by decide +kernel)]
                          have tt_4862 : (I_4858 393 this).toInt = (I_4825 393 this).toInt := by rw [eI_4858, pq_uf _ _ _ (by decide +kernel)]
                          refine lv_aload_n hx hb dX12_nextToken_381 rfl (lv_at hl 0 rfl) ?_
                          refine lv_iload_n hx hb dX12_nextToken_382 rfl (lv_at hl 1 rfl) ?_
                          refine lv_bipush (v := 60) hx hb dX12_nextToken_383 (by decide +kernel) ?_
                          refine lv_icmp_ne (tgt := 392) hx hb dX12_nextToken_385 (by decide +kernel) (fun c_4863 => ?_) (fun c_4863 => ?_)
                          · have tc_4866 : (x_4475).toInt ≠ 60 := fun q => c_4863 (Int32.toInt_inj.mp q)
                            exact (rg_empty (rg_ne c_4863 h_4835 60 rfl (lo := 61) (hi := 59) (by decide +kernel)) (by decide +kernel)).elim
                          · have tc_4867 : (x_4475).toInt = 60 := congrArg Int32.toInt c_4863
                            refine lv_iconst (v := 4) hx hb dX12_nextToken_388 (by decide +kernel) ?_
                            refine lv_goto (tgt := 393) hx hb dX12_nextToken_389 (by decide +kernel) ?_
                            refine pp_i (v := 4) (ty := .int) (C := RX12) (T := TX12) (N := 31) hx hb hts (tw_i inlX12) tyX12 tyX12_ok nmX12 hown hK hP hD hS hL_this hK_this (by decide +kernel) rfl 9 393 (by decide +kernel) (hts _ (tw_c tw_831)) rfl (tyX12_ok 9 (by decide +kernel)) rfl rfl (Nat.le_of_ble_eq_true rfl) (ps_393 _ _ _ _ _) dX12_nextToken_393 (fun I_4868 H locs eI_4868 hP hD hS => ?_)
                            replace hFr := fr_I (f := 393) hFr hO_this (by decide +kernel) eI_4868
                            replace hF := hF.trans (ap_n (vI_st (f := 393) hO_this (by decide +kernel) eI_4868))
                            have hG := GM.wI hG 393 rfl eI_4868 (rg_w (rg_k (4 : Int32) 4 rfl) (by decide +kernel)) (by decide +kernel)
                            have tt_4869 : (I_4868 391 this).toInt = (I_4858 391 this).toInt := by rw [eI_4868, pq_uf _ _ _ (by decide +kernel)]
                            have tt_4870 : (I_4868 388 this).toInt = (I_4858 388 this).toInt := by rw [eI_4868, pq_uf _ _ _ (by decide +kernel)]
                            have tt_4871 : (I_4868 403 this).toInt = (I_4858 403 this).toInt := by rw [eI_4868, pq_uf _ _ _ (by decide +kernel)]
                            have tt_4872 : (I_4868 393 this).toInt = 4 := by rw [eI_4868, pq_us]; rfl
                            subst hQ
                            exact W.vret hx hb hr (fun t1 ht hW => ⟨⟨(σ, I_4868, J, ri, rj, rq), rfl, ⟨I_4868, J, rfl, hG, (by omega), (by omega), (by omega), (hF0.symm.trans hF), hFr⟩, by rw [ht]; exact hP, va_K.moved hW.alike hK, hD⟩, hS.F ht⟩) hS.2.2 dX12_nextToken_396
                      · replace hF := hF.trans (if_neg c_4830)
                        have tc_4873 : (x_4475).toInt ≠ 60 := fun q => c_4830 (Int32.toInt_inj.mp q)
                        refine lv_iload_n hx hb dX12_nextToken_352 rfl (lv_at hl 1 rfl) ?_
                        refine lv_bipush (v := 62) hx hb dX12_nextToken_353 (by decide +kernel) ?_
                        refine lv_icmp_ne (tgt := 396) hx hb dX12_nextToken_355 (by decide +kernel) (fun c_4874 => ?_) (fun c_4874 => ?_)
                        · replace hF := hF.trans (if_neg c_4874)
                          have tc_4878 : (x_4475).toInt ≠ 62 := fun q => c_4874 (Int32.toInt_inj.mp q)
                          subst hQ
                          exact W.vret hx hb hr (fun t1 ht hW => ⟨⟨(σ, I_4825, J, ri, rj, rq), rfl, ⟨I_4825, J, rfl, hG, (by omega), (by omega), (by omega), (hF0.symm.trans hF), hFr⟩, by rw [ht]; exact hP, va_K.moved hW.alike hK, hD⟩, hS.F ht⟩) hS.2.2 dX12_nextToken_396
                        · replace hF := hF.trans (if_pos c_4874)
                          have tc_4879 : (x_4475).toInt = 62 := congrArg Int32.toInt c_4874
                          have h_4880 : rg x_4475 62 62 := rg_and h_4491 (rg_of_eq c_4874 (rg_k (62 : Int32) 62 rfl)) (by decide +kernel)
                          have uh_4880 := h_4880.1
                          have vh_4880 := h_4880.2
                          refine lv_aload_n hx hb dX12_nextToken_358 rfl (lv_at hl 0 rfl) ?_
                          refine lv_aload_n hx hb dX12_nextToken_359 rfl (lv_at hl 0 rfl) ?_
                          refine pg_f (v := .int (I_4825 391 this)) (C := RX12) (T := TX12) (N := 31) hx hb hts (tw_i inlX12) hown hK hP hL_this hK_this (by decide +kernel) rfl 7 (by decide +kernel) (hts _ (tw_c tw_830)) rfl dX12_nextToken_360 ?_
                          have h_4881 : rg (I_4825 391 this) 1 300 := (by rw [eI_4825, pq_uf _ _ _ (by decide +kernel)]; exact (by rw [eI_4533, pq_us]; exact h_4532))
                          have uh_4881 := h_4881.1
                          have vh_4881 := h_4881.2
                          replace hF := hF.trans (ap_n (vI_e (f := 391) hO_this (by decide +kernel)))
                          refine pk_i (va_runV (As := [.int (I_4825 391 this)]) (rest := []) ⟨hx, hb, hml, hown, hts⟩ (s_X12_see_x l D t σ I_4825 J ri rj rq H.size tg hSH hG.1 this (I_4825 391 this) hL_this hK_this (rg_w h_4881 (by decide +kernel)) this_tape hR_this_tape hL_this_tape hK_this_tape hN_this_tape hT_this_tape) (cwV 1 hts (tw_V tw_839 tw_840 tw_841 tw_5 tw_842) rfl rfl rfl cv_yX12_see_1 ⟨Nat.le_of_ble_eq_true rfl, Nat.le_of_ble_eq_true rfl⟩) ⟨pq_blind, pq_recv hK hP hL_this hK_this (by decide +kernel) rfl, pq_pre hK hN hP hD⟩ rfl rfl hl.1 rfl (lv_room (Nat.le_of_ble_eq_true rfl)) dX12_nextToken_363 ⟨Nat.le_of_ble_eq_true rfl, Nat.le_of_ble_eq_true rfl⟩) hD hS hA (fun x_4883 σ1 μ1 H locs hw_4884 hP hD hS => ?_)
                          obtain ⟨hu_4885, hp_4888, hfn_4889, hr_4887⟩ := hw_4884
                          obtain ⟨hu_4885a, hu_4885b⟩ := Prod.mk.inj hu_4885
                          rw [hu_4885a, hu_4885b] at hP hD
                          replace hF := hF.trans (bn_n hfn_4889)
                          have tt_4891 : ((x_4883).toInt = -1 ∧ (I_4825 388 this).toInt ≤ (I_4825 391 this).toInt) ∨ (0 ≤ (x_4883).toInt ∧ (I_4825 391 this).toInt < (I_4825 388 this).toInt) := hp_4888.elim Or.inl (fun q => Or.inr q.2)
                          have tt_4892 := (GM.rI hG 388 (a := this) (lo := 0) (hi := 300) rfl).2
                          refine lv_bipush (v := 61) hx hb dX12_nextToken_366 (by decide +kernel) ?_
                          refine lv_icmp_ne (tgt := 396) hx hb dX12_nextToken_368 (by decide +kernel) (fun c_4893 => ?_) (fun c_4893 => ?_)
                          · replace hF := hF.trans (if_neg c_4893)
                            have tc_4897 : (x_4883).toInt ≠ 61 := fun q => c_4893 (Int32.toInt_inj.mp q)
                            subst hQ
                            exact W.vret hx hb hr (fun t1 ht hW => ⟨⟨(σ, I_4825, J, ri, rj, rq), rfl, ⟨I_4825, J, rfl, hG, (by omega), (by omega), (by omega), (hF0.symm.trans hF), hFr⟩, by rw [ht]; exact hP, va_K.moved hW.alike hK, hD⟩, hS.F ht⟩) hS.2.2 dX12_nextToken_396
                          · replace hF := hF.trans (if_pos c_4893)
                            have tc_4898 : (x_4883).toInt = 61 := congrArg Int32.toInt c_4893
                            have h_4899 : rg x_4883 61 61 := rg_and hr_4887 (rg_of_eq c_4893 (rg_k (61 : Int32) 61 rfl)) (by decide +kernel)
                            have uh_4899 := h_4899.1
                            have vh_4899 := h_4899.2
                            refine lv_aload_n hx hb dX12_nextToken_371 rfl (lv_at hl 0 rfl) ?_
                            refine lv_dup hx hb dX12_nextToken_372 rfl ?_
                            refine pg_f (v := .int (I_4825 391 this)) (C := RX12) (T := TX12) (N := 31) hx hb hts (tw_i inlX12) hown hK hP hL_this hK_this (by decide +kernel) rfl 7 (by decide +kernel) (hts _ (tw_c tw_830)) rfl dX12_nextToken_373 ?_
                            refine lv_iconst (v := 1) hx hb dX12_nextToken_376 (by decide +kernel) ?_
                            have h_4900 : rg (I_4825 391 this) 0 299 := ⟨by omega, by omega⟩
                            have uh_4900 := h_4900.1
                            have vh_4900 := h_4900.2
                            refine lv_iadd hx hb dX12_nextToken_377 ?_
                            refine lv_topi (fun x_4901 ex_4901 => ?_)
                            replace hF := hF.trans (ap_n ex_4901)
                            have h_4902 : rg x_4901 1 300 := rg_of_eq ex_4901 (rg_add h_4900 (rg_k (1 : Int32) 1 rfl) (by decide +kernel))
                            have uh_4902 := h_4902.1
                            have vh_4902 := h_4902.2
                            have tx_4901 : (x_4901).toInt = (I_4825 391 this).toInt + 1 := by rw [ex_4901]; exact i_add_rg (a2 := (I_4825 391 this).toInt) (b2 := 1) rfl rfl h_4900 (rg_k (1 : Int32) 1 rfl) (by decide +kernel)
                            refine pp_i (v := x_4901) (ty := .int) (C := RX12) (T := TX12) (N := 31) hx hb hts (tw_i inlX12) tyX12 tyX12_ok nmX12 hown hK hP hD hS hL_this hK_this (by decide +kernel) rfl 7 391 (by decide +kernel) (hts _ (tw_c tw_830)) rfl (tyX12_ok 7 (by decide +kernel)) rfl rfl (Nat.le_of_ble_eq_true rfl) (ps_391 _ _ _ _ _) dX12_nextToken_378 (fun I_4903 H locs eI_4903 hP hD hS => ?_)
                            replace hFr := fr_I (f := 391) hFr hO_this (by decide +kernel) eI_4903
                            replace hF := hF.trans (ap_n (vI_st (f := 391) hO_this (by decide +kernel) eI_4903))
                            have hG := GM.wI hG 391 rfl eI_4903 (rg_w h_4902 (by decide +kernel)) (by decide +kernel)
                            have tt_4904 : (I_4903 391 this).toInt = (x_4901).toInt := by rw [eI_4903, pq_us]
                            have tt_4905 : (I_4903 388 this).toInt = (I_4825 388 this).toInt := by rw [eI_4903, pq_uf _ _ _ (by decide +kernel)]
                            have tt_4906 : (I_4903 403 this).toInt = (I_4825 403 this).toInt := by rw [eI_4903, pq_uf _ _ _ (by decide +kernel)]
                            have tt_4907 : (I_4903 393 this).toInt = (I_4825 393 this).toInt := by rw [eI_4903, pq_uf _ _ _ (by decide +kernel)]
                            refine lv_aload_n hx hb dX12_nextToken_381 rfl (lv_at hl 0 rfl) ?_
                            refine lv_iload_n hx hb dX12_nextToken_382 rfl (lv_at hl 1 rfl) ?_
                            refine lv_bipush (v := 60) hx hb dX12_nextToken_383 (by decide +kernel) ?_
                            refine lv_icmp_ne (tgt := 392) hx hb dX12_nextToken_385 (by decide +kernel) (fun c_4908 => ?_) (fun c_4908 => ?_)
                            · have tc_4911 : (x_4475).toInt ≠ 60 := fun q => c_4908 (Int32.toInt_inj.mp q)
                              refine lv_iconst (v := 5) hx hb dX12_nextToken_392 (by decide +kernel) ?_
                              refine pp_i (v := 5) (ty := .int) (C := RX12) (T := TX12) (N := 31) hx hb hts (tw_i inlX12) tyX12 tyX12_ok nmX12 hown hK hP hD hS hL_this hK_this (by decide +kernel) rfl 9 393 (by decide +kernel) (hts _ (tw_c tw_831)) rfl (tyX12_ok 9 (by decide +kernel)) rfl rfl (Nat.le_of_ble_eq_true rfl) (ps_393 _ _ _ _ _) dX12_nextToken_393 (fun I_4912 H locs eI_4912 hP hD hS => ?_)
                              replace hFr := fr_I (f := 393) hFr hO_this (by decide +kernel) eI_4912
                              replace hF := hF.trans (ap_n (vI_st (f := 393) hO_this (by decide +kernel) eI_4912))
                              have hG := GM.wI hG 393 rfl eI_4912 (rg_w (rg_k (5 : Int32) 5 rfl) (by decide +kernel)) (by decide +kernel)
                              have tt_4913 : (I_4912 391 this).toInt = (I_4903 391 this).toInt := by rw [eI_4912, pq_uf _ _ _ (by decide +kernel)]
                              have tt_4914 : (I_4912 388 this).toInt = (I_4903 388 this).toInt := by rw [eI_4912, pq_uf _ _ _ (by decide +kernel)]
                              have tt_4915 : (I_4912 403 this).toInt = (I_4903 403 this).toInt := by rw [eI_4912, pq_uf _ _ _ (by decide +kernel)]
                              have tt_4916 : (I_4912 393 this).toInt = 5 := by rw [eI_4912, pq_us]; rfl
                              subst hQ
                              exact W.vret hx hb hr (fun t1 ht hW => ⟨⟨(σ, I_4912, J, ri, rj, rq), rfl, ⟨I_4912, J, rfl, hG, (by omega), (by omega), (by omega), (hF0.symm.trans hF), hFr⟩, by rw [ht]; exact hP, va_K.moved hW.alike hK, hD⟩, hS.F ht⟩) hS.2.2 dX12_nextToken_396
                            · have tc_4917 : (x_4475).toInt = 60 := congrArg Int32.toInt c_4908
                              exact (rg_empty (rg_and h_4880 (rg_of_eq c_4908 (rg_k (60 : Int32) 60 rfl)) (lo := 62) (hi := 60) (by decide +kernel)) (by decide +kernel)).elim
                    refine lv_if_eq (tgt := 342) hx hb dX12_nextToken_335 (by decide +kernel) (fun c_4918 => ?_) (fun c_4918 => absurd c_4918 (by decide +kernel))
                    refine lv_iconst (v := 3) hx hb dX12_nextToken_342 (by decide +kernel) ?_
                    exact K_4824 _ _ _ hF hFr hG hP hD hS (lv_sub hl [1, 2] rfl)
                  have K_4919 : ∀  (H : Heap) (locs : List Loc) (ls : Array Slot), rg (x_4475) 35 62 → F = g_X12_nextToken_x_K332_2 (vJ 12 σ this J) (vR 12 σ this ri) (vL 12 σ this rj) (vQ 12 σ this rq) x_4475 (vI 12 σ this I_4533)  → FR 12 tg σ this (I, J, ri, rj, rq) (I_4533, J, ri, rj, rq) → GM [391, 392, 393] tg σ I ri I_4533 ri rq → va_P D vwCl (pq_P t σ (I_4533, J, ri, rj, rq)) H → va_D A (pq_P t σ (I_4533, J, ri, rj, rq)) → va_S A s.heap H locs → lv_has ls 3 [(0, .ref this), (1, .int x_4475)] → W p l e ({ frames := 2, cells := 0, slots := 0, locals := 42 } : Room) s m (List.toArray ([.ref this] : List Value)) below meth c H locs 0 0 Q (F0 m 332 ls [.int 1]) := by
                    intro H locs ls h_4921 hF hFr hG hP hD hS hl
                    have uh_4921 := h_4921.1
                    have vh_4921 := h_4921.2
                    replace hF := hF.trans g_X12_nextToken_x_K332_2_e
                    refine lv_istore_n (lv' := [(2, .int 1), (0, .ref this), (1, .int x_4475)]) hx hb dX12_nextToken_332 rfl hl (by decide +kernel) rfl (fun ls hl => ?_)
                    refine lv_aload_n hx hb dX12_nextToken_333 rfl (lv_at hl 1 rfl) ?_
                    refine lv_iload_n hx hb dX12_nextToken_334 rfl (lv_at hl 0 rfl) ?_
                    have K_5001 : ∀  (H : Heap) (locs : List Loc) (ls : Array Slot), F = g_X12_nextToken_x_K343_2 (vJ 12 σ this J) (vR 12 σ this ri) (vL 12 σ this rj) (vQ 12 σ this rq) x_4475 (vI 12 σ this I_4533)  → FR 12 tg σ this (I, J, ri, rj, rq) (I_4533, J, ri, rj, rq) → GM [391, 392, 393] tg σ I ri I_4533 ri rq → va_P D vwCl (pq_P t σ (I_4533, J, ri, rj, rq)) H → va_D A (pq_P t σ (I_4533, J, ri, rj, rq)) → va_S A s.heap H locs → lv_has ls 3 [(0, .ref this), (1, .int x_4475)] → W p l e ({ frames := 2, cells := 0, slots := 0, locals := 42 } : Room) s m (List.toArray ([.ref this] : List Value)) below meth c H locs 0 0 Q (F0 m 343 ls [.int x_4475, .ref this]) := by
                      intro H locs ls hF hFr hG hP hD hS hl
                      replace hF := hF.trans g_X12_nextToken_x_K343_2_e
                      refine pp_i (v := x_4475) (ty := .int) (C := RX12) (T := TX12) (N := 31) hx hb hts (tw_i inlX12) tyX12 tyX12_ok nmX12 hown hK hP hD hS hL_this hK_this (by decide +kernel) rfl 9 393 (by decide +kernel) (hts _ (tw_c tw_831)) rfl (tyX12_ok 9 (by decide +kernel)) rfl rfl (Nat.le_of_ble_eq_true rfl) (ps_393 _ _ _ _ _) dX12_nextToken_343 (fun I_5002 H locs eI_5002 hP hD hS => ?_)
                      replace hFr := fr_I (f := 393) hFr hO_this (by decide +kernel) eI_5002
                      replace hF := hF.trans (ap_n (vI_st (f := 393) hO_this (by decide +kernel) eI_5002))
                      have hG := GM.wI hG 393 rfl eI_5002 (rg_w h_4921 (by decide +kernel)) (by decide +kernel)
                      have tt_5003 : (I_5002 391 this).toInt = (I_4533 391 this).toInt := by rw [eI_5002, pq_uf _ _ _ (by decide +kernel)]
                      have tt_5004 : (I_5002 388 this).toInt = (I_4533 388 this).toInt := by rw [eI_5002, pq_uf _ _ _ (by decide +kernel)]
                      have tt_5005 : (I_5002 403 this).toInt = (I_4533 403 this).toInt := by rw [eI_5002, pq_uf _ _ _ (by decide +kernel)]
                      have tt_5006 : (I_5002 393 this).toInt = (x_4475).toInt := by rw [eI_5002, pq_us]
                      refine lv_iload_n hx hb dX12_nextToken_346 rfl (lv_at hl 1 rfl) ?_
                      refine lv_bipush (v := 60) hx hb dX12_nextToken_347 (by decide +kernel) ?_
                      refine lv_icmp_eq (tgt := 358) hx hb dX12_nextToken_349 (by decide +kernel) (fun c_5007 => ?_) (fun c_5007 => ?_)
                      · replace hF := hF.trans (if_pos c_5007)
                        have tc_5011 : (x_4475).toInt = 60 := congrArg Int32.toInt c_5007
                        have h_5012 : rg x_4475 60 60 := rg_and h_4921 (rg_of_eq c_5007 (rg_k (60 : Int32) 60 rfl)) (by decide +kernel)
                        have uh_5012 := h_5012.1
                        have vh_5012 := h_5012.2
                        refine lv_aload_n hx hb dX12_nextToken_358 rfl (lv_at hl 0 rfl) ?_
                        refine lv_aload_n hx hb dX12_nextToken_359 rfl (lv_at hl 0 rfl) ?_
                        refine pg_f (v := .int (I_5002 391 this)) (C := RX12) (T := TX12) (N := 31) hx hb hts (tw_i inlX12) hown hK hP hL_this hK_this (by decide +kernel) rfl 7 (by decide +kernel) (hts _ (tw_c tw_830)) rfl dX12_nextToken_360 ?_
                        have h_5013 : rg (I_5002 391 this) 1 300 := (by rw [eI_5002, pq_uf _ _ _ (by decide +kernel)]; exact (by rw [eI_4533, pq_us]; exact h_4532))
                        have uh_5013 := h_5013.1
                        have vh_5013 := h_5013.2
                        replace hF := hF.trans (ap_n (vI_e (f := 391) hO_this (by decide +kernel)))
                        refine pk_i (va_runV (As := [.int (I_5002 391 this)]) (rest := []) ⟨hx, hb, hml, hown, hts⟩ (s_X12_see_x l D t σ I_5002 J ri rj rq H.size tg hSH hG.1 this (I_5002 391 this) hL_this hK_this (rg_w h_5013 (by decide +kernel)) this_tape hR_this_tape hL_this_tape hK_this_tape hN_this_tape hT_this_tape) (cwV 1 hts (tw_V tw_839 tw_840 tw_841 tw_5 tw_842) rfl rfl rfl cv_yX12_see_1 ⟨Nat.le_of_ble_eq_true rfl, Nat.le_of_ble_eq_true rfl⟩) ⟨pq_blind, pq_recv hK hP hL_this hK_this (by decide +kernel) rfl, pq_pre hK hN hP hD⟩ rfl rfl hl.1 rfl (lv_room (Nat.le_of_ble_eq_true rfl)) dX12_nextToken_363 ⟨Nat.le_of_ble_eq_true rfl, Nat.le_of_ble_eq_true rfl⟩) hD hS hA (fun x_5015 σ1 μ1 H locs hw_5016 hP hD hS => ?_)
                        obtain ⟨hu_5017, hp_5020, hfn_5021, hr_5019⟩ := hw_5016
                        obtain ⟨hu_5017a, hu_5017b⟩ := Prod.mk.inj hu_5017
                        rw [hu_5017a, hu_5017b] at hP hD
                        replace hF := hF.trans (bn_n hfn_5021)
                        have tt_5023 : ((x_5015).toInt = -1 ∧ (I_5002 388 this).toInt ≤ (I_5002 391 this).toInt) ∨ (0 ≤ (x_5015).toInt ∧ (I_5002 391 this).toInt < (I_5002 388 this).toInt) := hp_5020.elim Or.inl (fun q => Or.inr q.2)
                        have tt_5024 := (GM.rI hG 388 (a := this) (lo := 0) (hi := 300) rfl).2
                        refine lv_bipush (v := 61) hx hb dX12_nextToken_366 (by decide +kernel) ?_
                        refine lv_icmp_ne (tgt := 396) hx hb dX12_nextToken_368 (by decide +kernel) (fun c_5025 => ?_) (fun c_5025 => ?_)
                        · replace hF := hF.trans (if_neg c_5025)
                          have tc_5029 : (x_5015).toInt ≠ 61 := fun q => c_5025 (Int32.toInt_inj.mp q)
                          subst hQ
                          exact W.vret hx hb hr (fun t1 ht hW => ⟨⟨(σ, I_5002, J, ri, rj, rq), rfl, ⟨I_5002, J, rfl, hG, (by omega), (by omega), (by omega), (hF0.symm.trans hF), hFr⟩, by rw [ht]; exact hP, va_K.moved hW.alike hK, hD⟩, hS.F ht⟩) hS.2.2 dX12_nextToken_396
                        · replace hF := hF.trans (if_pos c_5025)
                          have tc_5030 : (x_5015).toInt = 61 := congrArg Int32.toInt c_5025
                          have h_5031 : rg x_5015 61 61 := rg_and hr_5019 (rg_of_eq c_5025 (rg_k (61 : Int32) 61 rfl)) (by decide +kernel)
                          have uh_5031 := h_5031.1
                          have vh_5031 := h_5031.2
                          refine lv_aload_n hx hb dX12_nextToken_371 rfl (lv_at hl 0 rfl) ?_
                          refine lv_dup hx hb dX12_nextToken_372 rfl ?_
                          refine pg_f (v := .int (I_5002 391 this)) (C := RX12) (T := TX12) (N := 31) hx hb hts (tw_i inlX12) hown hK hP hL_this hK_this (by decide +kernel) rfl 7 (by decide +kernel) (hts _ (tw_c tw_830)) rfl dX12_nextToken_373 ?_
                          refine lv_iconst (v := 1) hx hb dX12_nextToken_376 (by decide +kernel) ?_
                          have h_5032 : rg (I_5002 391 this) 0 299 := ⟨by omega, by omega⟩
                          have uh_5032 := h_5032.1
                          have vh_5032 := h_5032.2
                          refine lv_iadd hx hb dX12_nextToken_377 ?_
                          refine lv_topi (fun x_5033 ex_5033 => ?_)
                          replace hF := hF.trans (ap_n ex_5033)
                          have h_5034 : rg x_5033 1 300 := rg_of_eq ex_5033 (rg_add h_5032 (rg_k (1 : Int32) 1 rfl) (by decide +kernel))
                          have uh_5034 := h_5034.1
                          have vh_5034 := h_5034.2
                          have tx_5033 : (x_5033).toInt = (I_5002 391 this).toInt + 1 := by rw [ex_5033]; exact i_add_rg (a2 := (I_5002 391 this).toInt) (b2 := 1) rfl rfl h_5032 (rg_k (1 : Int32) 1 rfl) (by decide +kernel)
                          refine pp_i (v := x_5033) (ty := .int) (C := RX12) (T := TX12) (N := 31) hx hb hts (tw_i inlX12) tyX12 tyX12_ok nmX12 hown hK hP hD hS hL_this hK_this (by decide +kernel) rfl 7 391 (by decide +kernel) (hts _ (tw_c tw_830)) rfl (tyX12_ok 7 (by decide +kernel)) rfl rfl (Nat.le_of_ble_eq_true rfl) (ps_391 _ _ _ _ _) dX12_nextToken_378 (fun I_5035 H locs eI_5035 hP hD hS => ?_)
                          replace hFr := fr_I (f := 391) hFr hO_this (by decide +kernel) eI_5035
                          replace hF := hF.trans (ap_n (vI_st (f := 391) hO_this (by decide +kernel) eI_5035))
                          have hG := GM.wI hG 391 rfl eI_5035 (rg_w h_5034 (by decide +kernel)) (by decide +kernel)
                          have tt_5036 : (I_5035 391 this).toInt = (x_5033).toInt := by rw [eI_5035, pq_us]
                          have tt_5037 : (I_5035 388 this).toInt = (I_5002 388 this).toInt := by rw [eI_5035, pq_uf _ _ _ (by decide +kernel)]
                          have tt_5038 : (I_5035 403 this).toInt = (I_5002 403 this).toInt := by rw [eI_5035, pq_uf _ _ _ (by decide +kernel)]
                          have tt_5039 : (I_5035 393 this).toInt = (I_5002 393 this).toInt := by rw [eI_5035, pq_uf _ _ _ (by decide +kernel)]
                          refine lv_aload_n hx hb dX12_nextToken_381 rfl (lv_at hl 0 rfl) ?_
                          refine lv_iload_n hx hb dX12_nextToken_382 rfl (lv_at hl 1 rfl) ?_
                          refine lv_bipush (v := 60) hx hb dX12_nextToken_383 (by decide +kernel) ?_
                          refine lv_icmp_ne (tgt := 392) hx hb dX12_nextToken_385 (by decide +kernel) (fun c_5040 => ?_) (fun c_5040 => ?_)
                          · have tc_5043 : (x_4475).toInt ≠ 60 := fun q => c_5040 (Int32.toInt_inj.mp q)
                            exact (rg_empty (rg_ne c_5040 h_5012 60 rfl (lo := 61) (hi := 59) (by decide +kernel)) (by decide +kernel)).elim
                          · have tc_5044 : (x_4475).toInt = 60 := congrArg Int32.toInt c_5040
                            refine lv_iconst (v := 4) hx hb dX12_nextToken_388 (by decide +kernel) ?_
                            refine lv_goto (tgt := 393) hx hb dX12_nextToken_389 (by decide +kernel) ?_
                            refine pp_i (v := 4) (ty := .int) (C := RX12) (T := TX12) (N := 31) hx hb hts (tw_i inlX12) tyX12 tyX12_ok nmX12 hown hK hP hD hS hL_this hK_this (by decide +kernel) rfl 9 393 (by decide +kernel) (hts _ (tw_c tw_831)) rfl (tyX12_ok 9 (by decide +kernel)) rfl rfl (Nat.le_of_ble_eq_true rfl) (ps_393 _ _ _ _ _) dX12_nextToken_393 (fun I_5045 H locs eI_5045 hP hD hS => ?_)
                            replace hFr := fr_I (f := 393) hFr hO_this (by decide +kernel) eI_5045
                            replace hF := hF.trans (ap_n (vI_st (f := 393) hO_this (by decide +kernel) eI_5045))
                            have hG := GM.wI hG 393 rfl eI_5045 (rg_w (rg_k (4 : Int32) 4 rfl) (by decide +kernel)) (by decide +kernel)
                            have tt_5046 : (I_5045 391 this).toInt = (I_5035 391 this).toInt := by rw [eI_5045, pq_uf _ _ _ (by decide +kernel)]
                            have tt_5047 : (I_5045 388 this).toInt = (I_5035 388 this).toInt := by rw [eI_5045, pq_uf _ _ _ (by decide +kernel)]
                            have tt_5048 : (I_5045 403 this).toInt = (I_5035 403 this).toInt := by rw [eI_5045, pq_uf _ _ _ (by decide +kernel)]
                            have tt_5049 : (I_5045 393 this).toInt = 4 := by rw [eI_5045, pq_us]; rfl
                            subst hQ
                            exact W.vret hx hb hr (fun t1 ht hW => ⟨⟨(σ, I_5045, J, ri, rj, rq), rfl, ⟨I_5045, J, rfl, hG, (by omega), (by omega), (by omega), (hF0.symm.trans hF), hFr⟩, by rw [ht]; exact hP, va_K.moved hW.alike hK, hD⟩, hS.F ht⟩) hS.2.2 dX12_nextToken_396
                      · replace hF := hF.trans (if_neg c_5007)
                        have tc_5050 : (x_4475).toInt ≠ 60 := fun q => c_5007 (Int32.toInt_inj.mp q)
                        refine lv_iload_n hx hb dX12_nextToken_352 rfl (lv_at hl 1 rfl) ?_
                        refine lv_bipush (v := 62) hx hb dX12_nextToken_353 (by decide +kernel) ?_
                        refine lv_icmp_ne (tgt := 396) hx hb dX12_nextToken_355 (by decide +kernel) (fun c_5051 => ?_) (fun c_5051 => ?_)
                        · replace hF := hF.trans (if_neg c_5051)
                          have tc_5056 : (x_4475).toInt ≠ 62 := fun q => c_5051 (Int32.toInt_inj.mp q)
                          have h_5057 : rg x_4475 35 61 := rg_ne c_5051 h_4921 62 rfl (by decide +kernel)
                          have uh_5057 := h_5057.1
                          have vh_5057 := h_5057.2
                          subst hQ
                          exact W.vret hx hb hr (fun t1 ht hW => ⟨⟨(σ, I_5002, J, ri, rj, rq), rfl, ⟨I_5002, J, rfl, hG, (by omega), (by omega), (by omega), (hF0.symm.trans hF), hFr⟩, by rw [ht]; exact hP, va_K.moved hW.alike hK, hD⟩, hS.F ht⟩) hS.2.2 dX12_nextToken_396
                        · replace hF := hF.trans (if_pos c_5051)
                          have tc_5058 : (x_4475).toInt = 62 := congrArg Int32.toInt c_5051
                          have h_5059 : rg x_4475 62 62 := rg_and h_4921 (rg_of_eq c_5051 (rg_k (62 : Int32) 62 rfl)) (by decide +kernel)
                          have uh_5059 := h_5059.1
                          have vh_5059 := h_5059.2
                          refine lv_aload_n hx hb dX12_nextToken_358 rfl (lv_at hl 0 rfl) ?_
                          refine lv_aload_n hx hb dX12_nextToken_359 rfl (lv_at hl 0 rfl) ?_
                          refine pg_f (v := .int (I_5002 391 this)) (C := RX12) (T := TX12) (N := 31) hx hb hts (tw_i inlX12) hown hK hP hL_this hK_this (by decide +kernel) rfl 7 (by decide +kernel) (hts _ (tw_c tw_830)) rfl dX12_nextToken_360 ?_
                          have h_5060 : rg (I_5002 391 this) 1 300 := (by rw [eI_5002, pq_uf _ _ _ (by decide +kernel)]; exact (by rw [eI_4533, pq_us]; exact h_4532))
                          have uh_5060 := h_5060.1
                          have vh_5060 := h_5060.2
                          replace hF := hF.trans (ap_n (vI_e (f := 391) hO_this (by decide +kernel)))
                          refine pk_i (va_runV (As := [.int (I_5002 391 this)]) (rest := []) ⟨hx, hb, hml, hown, hts⟩ (s_X12_see_x l D t σ I_5002 J ri rj rq H.size tg hSH hG.1 this (I_5002 391 this) hL_this hK_this (rg_w h_5060 (by decide +kernel)) this_tape hR_this_tape hL_this_tape hK_this_tape hN_this_tape hT_this_tape) (cwV 1 hts (tw_V tw_839 tw_840 tw_841 tw_5 tw_842) rfl rfl rfl cv_yX12_see_1 ⟨Nat.le_of_ble_eq_true rfl, Nat.le_of_ble_eq_true rfl⟩) ⟨pq_blind, pq_recv hK hP hL_this hK_this (by decide +kernel) rfl, pq_pre hK hN hP hD⟩ rfl rfl hl.1 rfl (lv_room (Nat.le_of_ble_eq_true rfl)) dX12_nextToken_363 ⟨Nat.le_of_ble_eq_true rfl, Nat.le_of_ble_eq_true rfl⟩) hD hS hA (fun x_5062 σ1 μ1 H locs hw_5063 hP hD hS => ?_)
                          obtain ⟨hu_5064, hp_5067, hfn_5068, hr_5066⟩ := hw_5063
                          obtain ⟨hu_5064a, hu_5064b⟩ := Prod.mk.inj hu_5064
                          rw [hu_5064a, hu_5064b] at hP hD
                          replace hF := hF.trans (bn_n hfn_5068)
                          have tt_5070 : ((x_5062).toInt = -1 ∧ (I_5002 388 this).toInt ≤ (I_5002 391 this).toInt) ∨ (0 ≤ (x_5062).toInt ∧ (I_5002 391 this).toInt < (I_5002 388 this).toInt) := hp_5067.elim Or.inl (fun q => Or.inr q.2)
                          have tt_5071 := (GM.rI hG 388 (a := this) (lo := 0) (hi := 300) rfl).2
                          refine lv_bipush (v := 61) hx hb dX12_nextToken_366 (by decide +kernel) ?_
                          refine lv_icmp_ne (tgt := 396) hx hb dX12_nextToken_368 (by decide +kernel) (fun c_5072 => ?_) (fun c_5072 => ?_)
                          · replace hF := hF.trans (if_neg c_5072)
                            have tc_5076 : (x_5062).toInt ≠ 61 := fun q => c_5072 (Int32.toInt_inj.mp q)
                            subst hQ
                            exact W.vret hx hb hr (fun t1 ht hW => ⟨⟨(σ, I_5002, J, ri, rj, rq), rfl, ⟨I_5002, J, rfl, hG, (by omega), (by omega), (by omega), (hF0.symm.trans hF), hFr⟩, by rw [ht]; exact hP, va_K.moved hW.alike hK, hD⟩, hS.F ht⟩) hS.2.2 dX12_nextToken_396
                          · replace hF := hF.trans (if_pos c_5072)
                            have tc_5077 : (x_5062).toInt = 61 := congrArg Int32.toInt c_5072
                            have h_5078 : rg x_5062 61 61 := rg_and hr_5066 (rg_of_eq c_5072 (rg_k (61 : Int32) 61 rfl)) (by decide +kernel)
                            have uh_5078 := h_5078.1
                            have vh_5078 := h_5078.2
                            refine lv_aload_n hx hb dX12_nextToken_371 rfl (lv_at hl 0 rfl) ?_
                            refine lv_dup hx hb dX12_nextToken_372 rfl ?_
                            refine pg_f (v := .int (I_5002 391 this)) (C := RX12) (T := TX12) (N := 31) hx hb hts (tw_i inlX12) hown hK hP hL_this hK_this (by decide +kernel) rfl 7 (by decide +kernel) (hts _ (tw_c tw_830)) rfl dX12_nextToken_373 ?_
                            refine lv_iconst (v := 1) hx hb dX12_nextToken_376 (by decide +kernel) ?_
                            have h_5079 : rg (I_5002 391 this) 0 299 := ⟨by omega, by omega⟩
                            have uh_5079 := h_5079.1
                            have vh_5079 := h_5079.2
                            refine lv_iadd hx hb dX12_nextToken_377 ?_
                            refine lv_topi (fun x_5080 ex_5080 => ?_)
                            replace hF := hF.trans (ap_n ex_5080)
                            have h_5081 : rg x_5080 1 300 := rg_of_eq ex_5080 (rg_add h_5079 (rg_k (1 : Int32) 1 rfl) (by decide +kernel))
                            have uh_5081 := h_5081.1
                            have vh_5081 := h_5081.2
                            have tx_5080 : (x_5080).toInt = (I_5002 391 this).toInt + 1 := by rw [ex_5080]; exact i_add_rg (a2 := (I_5002 391 this).toInt) (b2 := 1) rfl rfl h_5079 (rg_k (1 : Int32) 1 rfl) (by decide +kernel)
                            refine pp_i (v := x_5080) (ty := .int) (C := RX12) (T := TX12) (N := 31) hx hb hts (tw_i inlX12) tyX12 tyX12_ok nmX12 hown hK hP hD hS hL_this hK_this (by decide +kernel) rfl 7 391 (by decide +kernel) (hts _ (tw_c tw_830)) rfl (tyX12_ok 7 (by decide +kernel)) rfl rfl (Nat.le_of_ble_eq_true rfl) (ps_391 _ _ _ _ _) dX12_nextToken_378 (fun I_5082 H locs eI_5082 hP hD hS => ?_)
                            replace hFr := fr_I (f := 391) hFr hO_this (by decide +kernel) eI_5082
                            replace hF := hF.trans (ap_n (vI_st (f := 391) hO_this (by decide +kernel) eI_5082))
                            have hG := GM.wI hG 391 rfl eI_5082 (rg_w h_5081 (by decide +kernel)) (by decide +kernel)
                            have tt_5083 : (I_5082 391 this).toInt = (x_5080).toInt := by rw [eI_5082, pq_us]
                            have tt_5084 : (I_5082 388 this).toInt = (I_5002 388 this).toInt := by rw [eI_5082, pq_uf _ _ _ (by decide +kernel)]
                            have tt_5085 : (I_5082 403 this).toInt = (I_5002 403 this).toInt := by rw [eI_5082, pq_uf _ _ _ (by decide +kernel)]
                            have tt_5086 : (I_5082 393 this).toInt = (I_5002 393 this).toInt := by rw [eI_5082, pq_uf _ _ _ (by decide +kernel)]
                            refine lv_aload_n hx hb dX12_nextToken_381 rfl (lv_at hl 0 rfl) ?_
                            refine lv_iload_n hx hb dX12_nextToken_382 rfl (lv_at hl 1 rfl) ?_
                            refine lv_bipush (v := 60) hx hb dX12_nextToken_383 (by decide +kernel) ?_
                            refine lv_icmp_ne (tgt := 392) hx hb dX12_nextToken_385 (by decide +kernel) (fun c_5087 => ?_) (fun c_5087 => ?_)
                            · have tc_5090 : (x_4475).toInt ≠ 60 := fun q => c_5087 (Int32.toInt_inj.mp q)
                              refine lv_iconst (v := 5) hx hb dX12_nextToken_392 (by decide +kernel) ?_
                              refine pp_i (v := 5) (ty := .int) (C := RX12) (T := TX12) (N := 31) hx hb hts (tw_i inlX12) tyX12 tyX12_ok nmX12 hown hK hP hD hS hL_this hK_this (by decide +kernel) rfl 9 393 (by decide +kernel) (hts _ (tw_c tw_831)) rfl (tyX12_ok 9 (by decide +kernel)) rfl rfl (Nat.le_of_ble_eq_true rfl) (ps_393 _ _ _ _ _) dX12_nextToken_393 (fun I_5091 H locs eI_5091 hP hD hS => ?_)
                              replace hFr := fr_I (f := 393) hFr hO_this (by decide +kernel) eI_5091
                              replace hF := hF.trans (ap_n (vI_st (f := 393) hO_this (by decide +kernel) eI_5091))
                              have hG := GM.wI hG 393 rfl eI_5091 (rg_w (rg_k (5 : Int32) 5 rfl) (by decide +kernel)) (by decide +kernel)
                              have tt_5092 : (I_5091 391 this).toInt = (I_5082 391 this).toInt := by rw [eI_5091, pq_uf _ _ _ (by decide +kernel)]
                              have tt_5093 : (I_5091 388 this).toInt = (I_5082 388 this).toInt := by rw [eI_5091, pq_uf _ _ _ (by decide +kernel)]
                              have tt_5094 : (I_5091 403 this).toInt = (I_5082 403 this).toInt := by rw [eI_5091, pq_uf _ _ _ (by decide +kernel)]
                              have tt_5095 : (I_5091 393 this).toInt = 5 := by rw [eI_5091, pq_us]; rfl
                              subst hQ
                              exact W.vret hx hb hr (fun t1 ht hW => ⟨⟨(σ, I_5091, J, ri, rj, rq), rfl, ⟨I_5091, J, rfl, hG, (by omega), (by omega), (by omega), (hF0.symm.trans hF), hFr⟩, by rw [ht]; exact hP, va_K.moved hW.alike hK, hD⟩, hS.F ht⟩) hS.2.2 dX12_nextToken_396
                            · have tc_5096 : (x_4475).toInt = 60 := congrArg Int32.toInt c_5087
                              exact (rg_empty (rg_and h_5059 (rg_of_eq c_5087 (rg_k (60 : Int32) 60 rfl)) (lo := 62) (hi := 60) (by decide +kernel)) (by decide +kernel)).elim
                    refine lv_if_eq (tgt := 342) hx hb dX12_nextToken_335 (by decide +kernel) (fun c_5097 => absurd c_5097 (by decide +kernel)) (fun c_5097 => ?_)
                    refine lv_iload_n hx hb dX12_nextToken_338 rfl (lv_at hl 2 rfl) ?_
                    refine lv_goto (tgt := 343) hx hb dX12_nextToken_339 (by decide +kernel) ?_
                    exact K_5001 _ _ _ hF hFr hG hP hD hS (lv_sub hl [1, 2] rfl)
                  have K_5098 : ∀  (H : Heap) (locs : List Loc) (ls : Array Slot), rg (x_4475) 35 62 → F = g_X12_nextToken_x_K327 (vJ 12 σ this J) (vR 12 σ this ri) (vL 12 σ this rj) (vQ 12 σ this rq) x_4475 (vI 12 σ this I_4533)  → FR 12 tg σ this (I, J, ri, rj, rq) (I_4533, J, ri, rj, rq) → GM [391, 392, 393] tg σ I ri I_4533 ri rq → va_P D vwCl (pq_P t σ (I_4533, J, ri, rj, rq)) H → va_D A (pq_P t σ (I_4533, J, ri, rj, rq)) → va_S A s.heap H locs → lv_has ls 3 [(0, .ref this), (1, .int x_4475)] → W p l e ({ frames := 2, cells := 0, slots := 0, locals := 42 } : Room) s m (List.toArray ([.ref this] : List Value)) below meth c H locs 0 0 Q (F0 m 327 ls []) := by
                    intro H locs ls h_5100 hF hFr hG hP hD hS hl
                    have uh_5100 := h_5100.1
                    have vh_5100 := h_5100.2
                    replace hF := hF.trans g_X12_nextToken_x_K327_e
                    refine lv_iconst (v := 1) hx hb dX12_nextToken_327 (by decide +kernel) ?_
                    refine lv_goto (tgt := 332) hx hb dX12_nextToken_328 (by decide +kernel) ?_
                    exact K_4919 _ _ _ (rg_w h_5100 (by decide +kernel)) hF hFr hG hP hD hS (lv_sub hl [0, 1] rfl)
                  refine lv_icmp_eq (tgt := 327) hx hb dX12_nextToken_258 (by decide +kernel) (fun c_5101 => ?_) (fun c_5101 => ?_)
                  · replace hF := hF.trans (if_pos c_5101)
                    have tc_5105 : (x_4475).toInt = 60 := congrArg Int32.toInt c_5101
                    have h_5106 : rg x_4475 60 60 := rg_and h_4491 (rg_of_eq c_5101 (rg_k (60 : Int32) 60 rfl)) (by decide +kernel)
                    have uh_5106 := h_5106.1
                    have vh_5106 := h_5106.2
                    exact K_5098 _ _ _ (rg_w h_5106 (by decide +kernel)) hF hFr hG hP hD hS (lv_sub hl [1, 0] rfl)
                  · replace hF := hF.trans (if_neg c_5101)
                    have tc_5107 : (x_4475).toInt ≠ 60 := fun q => c_5101 (Int32.toInt_inj.mp q)
                    refine lv_iload_n hx hb dX12_nextToken_261 rfl (lv_at hl 0 rfl) ?_
                    refine lv_bipush (v := 62) hx hb dX12_nextToken_262 (by decide +kernel) ?_
                    refine lv_icmp_eq (tgt := 327) hx hb dX12_nextToken_264 (by decide +kernel) (fun c_5108 => ?_) (fun c_5108 => ?_)
                    · replace hF := hF.trans (if_pos c_5108)
                      have tc_5112 : (x_4475).toInt = 62 := congrArg Int32.toInt c_5108
                      have h_5113 : rg x_4475 62 62 := rg_and h_4491 (rg_of_eq c_5108 (rg_k (62 : Int32) 62 rfl)) (by decide +kernel)
                      have uh_5113 := h_5113.1
                      have vh_5113 := h_5113.2
                      exact K_5098 _ _ _ (rg_w h_5113 (by decide +kernel)) hF hFr hG hP hD hS (lv_sub hl [1, 0] rfl)
                    · replace hF := hF.trans (if_neg c_5108)
                      have tc_5114 : (x_4475).toInt ≠ 62 := fun q => c_5108 (Int32.toInt_inj.mp q)
                      refine lv_iload_n hx hb dX12_nextToken_267 rfl (lv_at hl 0 rfl) ?_
                      refine lv_bipush (v := 61) hx hb dX12_nextToken_268 (by decide +kernel) ?_
                      refine lv_icmp_eq (tgt := 327) hx hb dX12_nextToken_270 (by decide +kernel) (fun c_5115 => ?_) (fun c_5115 => ?_)
                      · replace hF := hF.trans (if_pos c_5115)
                        have tc_5119 : (x_4475).toInt = 61 := congrArg Int32.toInt c_5115
                        have h_5120 : rg x_4475 61 61 := rg_and h_4491 (rg_of_eq c_5115 (rg_k (61 : Int32) 61 rfl)) (by decide +kernel)
                        have uh_5120 := h_5120.1
                        have vh_5120 := h_5120.2
                        exact K_5098 _ _ _ (rg_w h_5120 (by decide +kernel)) hF hFr hG hP hD hS (lv_sub hl [1, 0] rfl)
                      · replace hF := hF.trans (if_neg c_5115)
                        have tc_5121 : (x_4475).toInt ≠ 61 := fun q => c_5115 (Int32.toInt_inj.mp q)
                        refine lv_iload_n hx hb dX12_nextToken_273 rfl (lv_at hl 0 rfl) ?_
                        refine lv_bipush (v := 35) hx hb dX12_nextToken_274 (by decide +kernel) ?_
                        refine lv_icmp_eq (tgt := 327) hx hb dX12_nextToken_276 (by decide +kernel) (fun c_5122 => ?_) (fun c_5122 => ?_)
                        · replace hF := hF.trans (if_pos c_5122)
                          have tc_5126 : (x_4475).toInt = 35 := congrArg Int32.toInt c_5122
                          have h_5127 : rg x_4475 35 35 := rg_and h_4491 (rg_of_eq c_5122 (rg_k (35 : Int32) 35 rfl)) (by decide +kernel)
                          have uh_5127 := h_5127.1
                          have vh_5127 := h_5127.2
                          exact K_5098 _ _ _ (rg_w h_5127 (by decide +kernel)) hF hFr hG hP hD hS (lv_sub hl [1, 0] rfl)
                        · replace hF := hF.trans (if_neg c_5122)
                          have tc_5128 : (x_4475).toInt ≠ 35 := fun q => c_5122 (Int32.toInt_inj.mp q)
                          refine lv_iload_n hx hb dX12_nextToken_279 rfl (lv_at hl 0 rfl) ?_
                          refine lv_bipush (v := 43) hx hb dX12_nextToken_280 (by decide +kernel) ?_
                          refine lv_icmp_eq (tgt := 327) hx hb dX12_nextToken_282 (by decide +kernel) (fun c_5129 => ?_) (fun c_5129 => ?_)
                          · replace hF := hF.trans (if_pos c_5129)
                            have tc_5133 : (x_4475).toInt = 43 := congrArg Int32.toInt c_5129
                            have h_5134 : rg x_4475 43 43 := rg_and h_4491 (rg_of_eq c_5129 (rg_k (43 : Int32) 43 rfl)) (by decide +kernel)
                            have uh_5134 := h_5134.1
                            have vh_5134 := h_5134.2
                            exact K_5098 _ _ _ (rg_w h_5134 (by decide +kernel)) hF hFr hG hP hD hS (lv_sub hl [1, 0] rfl)
                          · replace hF := hF.trans (if_neg c_5129)
                            have tc_5135 : (x_4475).toInt ≠ 43 := fun q => c_5129 (Int32.toInt_inj.mp q)
                            refine lv_iload_n hx hb dX12_nextToken_285 rfl (lv_at hl 0 rfl) ?_
                            refine lv_bipush (v := 45) hx hb dX12_nextToken_286 (by decide +kernel) ?_
                            refine lv_icmp_eq (tgt := 327) hx hb dX12_nextToken_288 (by decide +kernel) (fun c_5136 => ?_) (fun c_5136 => ?_)
                            · replace hF := hF.trans (if_pos c_5136)
                              have tc_5140 : (x_4475).toInt = 45 := congrArg Int32.toInt c_5136
                              have h_5141 : rg x_4475 45 45 := rg_and h_4491 (rg_of_eq c_5136 (rg_k (45 : Int32) 45 rfl)) (by decide +kernel)
                              have uh_5141 := h_5141.1
                              have vh_5141 := h_5141.2
                              exact K_5098 _ _ _ (rg_w h_5141 (by decide +kernel)) hF hFr hG hP hD hS (lv_sub hl [1, 0] rfl)
                            · replace hF := hF.trans (if_neg c_5136)
                              have tc_5142 : (x_4475).toInt ≠ 45 := fun q => c_5136 (Int32.toInt_inj.mp q)
                              refine lv_iload_n hx hb dX12_nextToken_291 rfl (lv_at hl 0 rfl) ?_
                              refine lv_bipush (v := 42) hx hb dX12_nextToken_292 (by decide +kernel) ?_
                              refine lv_icmp_eq (tgt := 327) hx hb dX12_nextToken_294 (by decide +kernel) (fun c_5143 => ?_) (fun c_5143 => ?_)
                              · replace hF := hF.trans (if_pos c_5143)
                                have tc_5147 : (x_4475).toInt = 42 := congrArg Int32.toInt c_5143
                                have h_5148 : rg x_4475 42 42 := rg_and h_4491 (rg_of_eq c_5143 (rg_k (42 : Int32) 42 rfl)) (by decide +kernel)
                                have uh_5148 := h_5148.1
                                have vh_5148 := h_5148.2
                                exact K_5098 _ _ _ (rg_w h_5148 (by decide +kernel)) hF hFr hG hP hD hS (lv_sub hl [1, 0] rfl)
                              · replace hF := hF.trans (if_neg c_5143)
                                have tc_5149 : (x_4475).toInt ≠ 42 := fun q => c_5143 (Int32.toInt_inj.mp q)
                                refine lv_iload_n hx hb dX12_nextToken_297 rfl (lv_at hl 0 rfl) ?_
                                refine lv_bipush (v := 47) hx hb dX12_nextToken_298 (by decide +kernel) ?_
                                refine lv_icmp_eq (tgt := 327) hx hb dX12_nextToken_300 (by decide +kernel) (fun c_5150 => ?_) (fun c_5150 => ?_)
                                · replace hF := hF.trans (if_pos c_5150)
                                  have tc_5154 : (x_4475).toInt = 47 := congrArg Int32.toInt c_5150
                                  have h_5155 : rg x_4475 47 47 := rg_and h_4491 (rg_of_eq c_5150 (rg_k (47 : Int32) 47 rfl)) (by decide +kernel)
                                  have uh_5155 := h_5155.1
                                  have vh_5155 := h_5155.2
                                  exact K_5098 _ _ _ (rg_w h_5155 (by decide +kernel)) hF hFr hG hP hD hS (lv_sub hl [1, 0] rfl)
                                · replace hF := hF.trans (if_neg c_5150)
                                  have tc_5156 : (x_4475).toInt ≠ 47 := fun q => c_5150 (Int32.toInt_inj.mp q)
                                  refine lv_iload_n hx hb dX12_nextToken_303 rfl (lv_at hl 0 rfl) ?_
                                  refine lv_bipush (v := 40) hx hb dX12_nextToken_304 (by decide +kernel) ?_
                                  refine lv_icmp_eq (tgt := 327) hx hb dX12_nextToken_306 (by decide +kernel) (fun c_5157 => ?_) (fun c_5157 => ?_)
                                  · replace hF := hF.trans (if_pos c_5157)
                                    have tc_5161 : (x_4475).toInt = 40 := congrArg Int32.toInt c_5157
                                    have h_5162 : rg x_4475 40 40 := rg_and h_4491 (rg_of_eq c_5157 (rg_k (40 : Int32) 40 rfl)) (by decide +kernel)
                                    have uh_5162 := h_5162.1
                                    have vh_5162 := h_5162.2
                                    exact K_5098 _ _ _ (rg_w h_5162 (by decide +kernel)) hF hFr hG hP hD hS (lv_sub hl [1, 0] rfl)
                                  · replace hF := hF.trans (if_neg c_5157)
                                    have tc_5163 : (x_4475).toInt ≠ 40 := fun q => c_5157 (Int32.toInt_inj.mp q)
                                    refine lv_iload_n hx hb dX12_nextToken_309 rfl (lv_at hl 0 rfl) ?_
                                    refine lv_bipush (v := 41) hx hb dX12_nextToken_310 (by decide +kernel) ?_
                                    refine lv_icmp_eq (tgt := 327) hx hb dX12_nextToken_312 (by decide +kernel) (fun c_5164 => ?_) (fun c_5164 => ?_)
                                    · replace hF := hF.trans (if_pos c_5164)
                                      have tc_5168 : (x_4475).toInt = 41 := congrArg Int32.toInt c_5164
                                      have h_5169 : rg x_4475 41 41 := rg_and h_4491 (rg_of_eq c_5164 (rg_k (41 : Int32) 41 rfl)) (by decide +kernel)
                                      have uh_5169 := h_5169.1
                                      have vh_5169 := h_5169.2
                                      exact K_5098 _ _ _ (rg_w h_5169 (by decide +kernel)) hF hFr hG hP hD hS (lv_sub hl [1, 0] rfl)
                                    · replace hF := hF.trans (if_neg c_5164)
                                      have tc_5170 : (x_4475).toInt ≠ 41 := fun q => c_5164 (Int32.toInt_inj.mp q)
                                      refine lv_iload_n hx hb dX12_nextToken_315 rfl (lv_at hl 0 rfl) ?_
                                      refine lv_bipush (v := 44) hx hb dX12_nextToken_316 (by decide +kernel) ?_
                                      refine lv_icmp_eq (tgt := 327) hx hb dX12_nextToken_318 (by decide +kernel) (fun c_5171 => ?_) (fun c_5171 => ?_)
                                      · replace hF := hF.trans (if_pos c_5171)
                                        have tc_5175 : (x_4475).toInt = 44 := congrArg Int32.toInt c_5171
                                        have h_5176 : rg x_4475 44 44 := rg_and h_4491 (rg_of_eq c_5171 (rg_k (44 : Int32) 44 rfl)) (by decide +kernel)
                                        have uh_5176 := h_5176.1
                                        have vh_5176 := h_5176.2
                                        exact K_5098 _ _ _ (rg_w h_5176 (by decide +kernel)) hF hFr hG hP hD hS (lv_sub hl [1, 0] rfl)
                                      · replace hF := hF.trans (if_neg c_5171)
                                        have tc_5177 : (x_4475).toInt ≠ 44 := fun q => c_5171 (Int32.toInt_inj.mp q)
                                        refine lv_iload_n hx hb dX12_nextToken_321 rfl (lv_at hl 0 rfl) ?_
                                        refine lv_bipush (v := 59) hx hb dX12_nextToken_322 (by decide +kernel) ?_
                                        refine lv_icmp_ne (tgt := 331) hx hb dX12_nextToken_324 (by decide +kernel) (fun c_5178 => ?_) (fun c_5178 => ?_)
                                        · replace hF := hF.trans (if_neg c_5178)
                                          have tc_5182 : (x_4475).toInt ≠ 59 := fun q => c_5178 (Int32.toInt_inj.mp q)
                                          refine lv_iconst (v := 0) hx hb dX12_nextToken_331 (by decide +kernel) ?_
                                          exact K_4745 _ _ _ hF hFr hG hP hD hS (lv_sub hl [1, 0] rfl)
                                        · replace hF := hF.trans (if_pos c_5178)
                                          have tc_5183 : (x_4475).toInt = 59 := congrArg Int32.toInt c_5178
                                          have h_5184 : rg x_4475 59 59 := rg_and h_4491 (rg_of_eq c_5178 (rg_k (59 : Int32) 59 rfl)) (by decide +kernel)
                                          have uh_5184 := h_5184.1
                                          have vh_5184 := h_5184.2
                                          exact K_5098 _ _ _ (rg_w h_5184 (by decide +kernel)) hF hFr hG hP hD hS (lv_sub hl [1, 0] rfl)
                · replace hF := hF.trans (if_neg c_4519)
                  obtain ⟨f_5185, f_5186⟩ := (hr_4515.resolve_right (fun q => c_4519 q.1)).2
                  have uf_5185 := f_5185.1
                  have vf_5185 := f_5185.2
                  have tc_5187 : (x_4511).toInt ≠ 0 := fun q => c_4519 (Int32.toInt_inj.mp q)
                  have h_5188 : rg x_4511 1 1 := rg_ne c_4519 h_4518 0 rfl (by decide +kernel)
                  have uh_5188 := h_5188.1
                  have vh_5188 := h_5188.2
                  refine lv_aload_n hx hb dX12_nextToken_151 rfl (lv_at hl 1 rfl) ?_
                  refine lv_iconst (v := 2) hx hb dX12_nextToken_152 (by decide +kernel) ?_
                  refine pp_i (v := 2) (ty := .int) (C := RX12) (T := TX12) (N := 31) hx hb hts (tw_i inlX12) tyX12 tyX12_ok nmX12 hown hK hP hD hS hL_this hK_this (by decide +kernel) rfl 9 393 (by decide +kernel) (hts _ (tw_c tw_831)) rfl (tyX12_ok 9 (by decide +kernel)) rfl rfl (Nat.le_of_ble_eq_true rfl) (ps_393 _ _ _ _ _) dX12_nextToken_153 (fun I_5189 H locs eI_5189 hP hD hS => ?_)
                  replace hFr := fr_I (f := 393) hFr hO_this (by decide +kernel) eI_5189
                  replace hF := hF.trans (ap_n (vI_st (f := 393) hO_this (by decide +kernel) eI_5189))
                  have hG := GM.wI hG 393 rfl eI_5189 (rg_w (rg_k (2 : Int32) 2 rfl) (by decide +kernel)) (by decide +kernel)
                  have tt_5190 : (I_5189 391 this).toInt = (I_4468 391 this).toInt := by rw [eI_5189, pq_uf _ _ _ (by decide +kernel)]
                  have tt_5191 : (I_5189 388 this).toInt = (I_4468 388 this).toInt := by rw [eI_5189, pq_uf _ _ _ (by decide +kernel)]
                  have tt_5192 : (I_5189 403 this).toInt = (I_4468 403 this).toInt := by rw [eI_5189, pq_uf _ _ _ (by decide +kernel)]
                  have tt_5193 : (I_5189 393 this).toInt = 2 := by rw [eI_5189, pq_us]; rfl
                  refine lv_aload_n hx hb dX12_nextToken_156 rfl (lv_at hl 1 rfl) ?_
                  refine lv_lconst (v := 0) hx hb dX12_nextToken_157 (by decide +kernel) ?_
                  refine pp_l (v := 0) (C := RX12) (T := TX12) (N := 31) hx hb hts (tw_i inlX12) tyX12 tyX12_ok nmX12 hown hK hP hD hS hL_this hK_this (by decide +kernel) rfl 11 395 (by decide +kernel) (hts _ (tw_c tw_838)) rfl (tyX12_ok 11 (by decide +kernel)) (Nat.le_of_ble_eq_true rfl) (ps_395 _ _ _ _ _) dX12_nextToken_158 (fun J_5194 H locs eJ_5194 hP hD hS => ?_)
                  replace hFr := fr_J (f := 395) hFr hO_this (by decide +kernel) eJ_5194
                  replace hF := hF.trans (ap_n (vJ_st (f := 395) hO_this (by decide +kernel) eJ_5194))
                  have L_5523 : ∀ (n_5522 : Nat) (I_5439 : Nat → Nat → Int32) (J_5440 : Nat → Nat → Int64) (H : Heap) (locs : List Loc) (ls : Array Slot), ((I_3315 391 this).toInt ≤ (I_5439 391 this).toInt ∧ (I_5439 388 this).toInt = (I 388 this).toInt ∧ (I_5439 403 this).toInt = (I 403 this).toInt) → (300 - (I_5439 391 this).toInt).toNat < n_5522 → F = g_X12_nextToken_x_L161 (vR 12 σ this ri) (vL 12 σ this rj) (vQ 12 σ this rq) n_5522 (vI 12 σ this I_5439) (vJ 12 σ this J_5440) → FR 12 tg σ this (I, J, ri, rj, rq) (I_5439, J_5440, ri, rj, rq) → GM [391, 392, 393] tg σ I ri I_5439 ri rq → va_P D vwCl (pq_P t σ (I_5439, J_5440, ri, rj, rq)) H → va_D A (pq_P t σ (I_5439, J_5440, ri, rj, rq)) → va_S A s.heap H locs → lv_has ls 3 [(0, .ref this)] → W p l e ({ frames := 2, cells := 0, slots := 0, locals := 42 } : Room) s m (List.toArray ([.ref this] : List Value)) below meth c H locs 0 0 Q (F0 m 161 ls []) := by
                    intro n_5522
                    induction n_5522 with
                    | zero => intro I_5439 J_5440 H locs ls hrel_5526 hm_5521 hF hFr hG hP hD hS hl; exact absurd hm_5521 (Nat.not_lt_zero _)
                    | succ n_5522 ih_5524 =>
                      intro I_5439 J_5440 H locs ls hrel_5526 hm_5521 hF hFr hG hP hD hS hl
                      replace hF := hF.trans g_X12_nextToken_x_L161_e
                      refine lv_aload_n hx hb dX12_nextToken_161 rfl (lv_at hl 0 rfl) ?_
                      refine lv_aload_n hx hb dX12_nextToken_162 rfl (lv_at hl 0 rfl) ?_
                      refine pg_f (v := .int (I_5439 391 this)) (C := RX12) (T := TX12) (N := 31) hx hb hts (tw_i inlX12) hown hK hP hL_this hK_this (by decide +kernel) rfl 7 (by decide +kernel) (hts _ (tw_c tw_830)) rfl dX12_nextToken_163 ?_
                      have h_5527 : rg (I_5439 391 this) 0 300 := GM.rI hG 391 rfl
                      have uh_5527 := h_5527.1
                      have vh_5527 := h_5527.2
                      replace hF := hF.trans (ap_n (vI_e (f := 391) hO_this (by decide +kernel)))
                      refine pk_i (va_runV (As := [.int (I_5439 391 this)]) (rest := []) ⟨hx, hb, hml, hown, hts⟩ (s_X12_see_x l D t σ I_5439 J_5440 ri rj rq H.size tg hSH hG.1 this (I_5439 391 this) hL_this hK_this (rg_w h_5527 (by decide +kernel)) this_tape hR_this_tape hL_this_tape hK_this_tape hN_this_tape hT_this_tape) (cwV 1 hts (tw_V tw_839 tw_840 tw_841 tw_5 tw_842) rfl rfl rfl cv_yX12_see_1 ⟨Nat.le_of_ble_eq_true rfl, Nat.le_of_ble_eq_true rfl⟩) ⟨pq_blind, pq_recv hK hP hL_this hK_this (by decide +kernel) rfl, pq_pre hK hN hP hD⟩ rfl rfl hl.1 rfl (lv_room (Nat.le_of_ble_eq_true rfl)) dX12_nextToken_166 ⟨Nat.le_of_ble_eq_true rfl, Nat.le_of_ble_eq_true rfl⟩) hD hS hA (fun x_5529 σ1 μ1 H locs hw_5530 hP hD hS => ?_)
                      obtain ⟨hu_5531, hp_5534, hfn_5535, hr_5533⟩ := hw_5530
                      obtain ⟨hu_5531a, hu_5531b⟩ := Prod.mk.inj hu_5531
                      rw [hu_5531a, hu_5531b] at hP hD
                      replace hF := hF.trans (bn_n hfn_5535)
                      have tt_5537 : ((x_5529).toInt = -1 ∧ (I_5439 388 this).toInt ≤ (I_5439 391 this).toInt) ∨ (0 ≤ (x_5529).toInt ∧ (I_5439 391 this).toInt < (I_5439 388 this).toInt) := hp_5534.elim Or.inl (fun q => Or.inr q.2)
                      have tt_5538 := (GM.rI hG 388 (a := this) (lo := 0) (hi := 300) rfl).2
                      have tt_5539 : (I_5439 391 this).toInt = (I_4468 391 this).toInt → (x_5529).toInt = (x_4475).toInt := fun q => by have e := Int32.toInt_inj.mp q; rcases hp_4480 with ⟨a, b⟩ | ⟨a, b, c⟩ <;> rcases hp_5534 with ⟨a2, b2⟩ | ⟨a2, b2, c2⟩ <;> first | omega | (rw [a, a2, e])
                      refine pk_i (va_runS (As := [.int x_5529]) (rest := []) ⟨hx, hb, hml, hown, hts⟩ (s_X12_isLetter_x l D t σ I_5439 J_5440 ri rj rq H.size tg hSH hG.1 x_5529) (va_cwS 1 hts (tw_S tw_846 tw_847 tw_5 tw_848) rfl rfl rfl cd_yX12_isLetter_1 ⟨Nat.le_of_ble_eq_true rfl, Nat.le_of_ble_eq_true rfl⟩) ⟨pq_blind, pq_pre hK hN hP hD⟩ rfl rfl hl.1 rfl (lv_room (Nat.le_of_ble_eq_true rfl)) dX12_nextToken_169 ⟨Nat.le_of_ble_eq_true rfl, Nat.le_of_ble_eq_true rfl⟩) hD hS hA (fun x_5540 σ1 μ1 H locs hw_5541 hP hD hS => ?_)
                      obtain ⟨hu_5542, hfn_5545, hr_5544⟩ := hw_5541
                      obtain ⟨hu_5542a, hu_5542b⟩ := Prod.mk.inj hu_5542
                      rw [hu_5542a, hu_5542b] at hP hD
                      replace hF := hF.trans (ap_n hfn_5545.symm)
                      have h_5547 : rg x_5540 0 1 := by rcases hr_5544 with ⟨q, -⟩ | ⟨q, -⟩ <;> rw [q] <;> exact ⟨by decide +kernel, by decide +kernel⟩
                      have uh_5547 := h_5547.1
                      have vh_5547 := h_5547.2
                      refine lv_if_eq (tgt := 223) hx hb dX12_nextToken_172 (by decide +kernel) (fun c_5548 => ?_) (fun c_5548 => ?_)
                      · replace hF := hF.trans (if_pos c_5548)
                        have f_5556 := (hr_5544.resolve_left (fun q => absurd (q.1.symm.trans c_5548) (by decide +kernel))).2
                        have tc_5557 : (x_5540).toInt = 0 := congrArg Int32.toInt c_5548
                        have h_5558 : rg x_5540 0 0 := rg_and h_5547 (rg_of_eq c_5548 (rg_k (0 : Int32) 0 rfl)) (by decide +kernel)
                        have uh_5558 := h_5558.1
                        have vh_5558 := h_5558.2
                        refine lv_aload_n hx hb dX12_nextToken_223 rfl (lv_at hl 0 rfl) ?_
                        refine pg_f (v := .int (I_5439 391 this)) (C := RX12) (T := TX12) (N := 31) hx hb hts (tw_i inlX12) hown hK hP hL_this hK_this (by decide +kernel) rfl 7 (by decide +kernel) (hts _ (tw_c tw_830)) rfl dX12_nextToken_224 ?_
                        refine lv_aload_n hx hb dX12_nextToken_227 rfl (lv_at hl 0 rfl) ?_
                        refine pg_f (v := .int (I_5439 392 this)) (C := RX12) (T := TX12) (N := 31) hx hb hts (tw_i inlX12) hown hK hP hL_this hK_this (by decide +kernel) rfl 8 (by decide +kernel) (hts _ (tw_c tw_820)) rfl dX12_nextToken_228 ?_
                        have h_5559 : rg (I_5439 392 this) 0 300 := GM.rI hG 392 rfl
                        have uh_5559 := h_5559.1
                        have vh_5559 := h_5559.2
                        replace hF := hF.trans (ap_n (vI_e (f := 392) hO_this (by decide +kernel)))
                        refine lv_isub hx hb dX12_nextToken_231 ?_
                        refine lv_topi (fun x_5561 ex_5561 => ?_)
                        replace hF := hF.trans (ap_n ex_5561)
                        have h_5562 : rg x_5561 (-300) 300 := rg_of_eq ex_5561 (rg_sub h_5527 h_5559 (by decide +kernel))
                        have uh_5562 := h_5562.1
                        have vh_5562 := h_5562.2
                        have tx_5561 : (x_5561).toInt = (I_5439 391 this).toInt - (I_5439 392 this).toInt := by rw [ex_5561]; exact i_sub_rg (a2 := (I_5439 391 this).toInt) (b2 := (I_5439 392 this).toInt) rfl rfl h_5527 h_5559 (by decide +kernel)
                        refine lv_bipush (v := 7) hx hb dX12_nextToken_232 (by decide +kernel) ?_
                        refine lv_icmp_le (tgt := 396) hx hb dX12_nextToken_234 (by decide +kernel) (fun c_5563 => ?_) (fun c_5563 => ?_)
                        · replace hF := hF.trans (if_pos c_5563)
                          have tc_5568 : (x_5561).toInt ≤ 7 := Int32.le_iff_toInt_le.mp c_5563
                          have h_5569 : rg x_5561 (-300) 7 := rg_le1 c_5563 h_5562 (rg_k (7 : Int32) 7 rfl) (by decide +kernel)
                          have uh_5569 := h_5569.1
                          have vh_5569 := h_5569.2
                          subst hQ
                          exact W.vret hx hb hr (fun t1 ht hW => ⟨⟨(σ, I_5439, J_5440, ri, rj, rq), rfl, ⟨I_5439, J_5440, rfl, hG, (by omega), (by omega), (by omega), (hF0.symm.trans hF), hFr⟩, by rw [ht]; exact hP, va_K.moved hW.alike hK, hD⟩, hS.F ht⟩) hS.2.2 dX12_nextToken_396
                        · replace hF := hF.trans (if_neg c_5563)
                          have tc_5570 : 7 < (x_5561).toInt := Int32.lt_iff_toInt_lt.mp (nle c_5563)
                          have h_5571 : rg x_5561 8 300 := rg_lt2 (nle c_5563) (rg_k (7 : Int32) 7 rfl) h_5562 (by decide +kernel)
                          have uh_5571 := h_5571.1
                          have vh_5571 := h_5571.2
                          refine lv_aload_n hx hb dX12_nextToken_237 rfl (lv_at hl 0 rfl) ?_
                          refine lv_lconst (v := 0) hx hb dX12_nextToken_238 (by decide +kernel) ?_
                          refine pp_l (v := 0) (C := RX12) (T := TX12) (N := 31) hx hb hts (tw_i inlX12) tyX12 tyX12_ok nmX12 hown hK hP hD hS hL_this hK_this (by decide +kernel) rfl 11 395 (by decide +kernel) (hts _ (tw_c tw_838)) rfl (tyX12_ok 11 (by decide +kernel)) (Nat.le_of_ble_eq_true rfl) (ps_395 _ _ _ _ _) dX12_nextToken_239 (fun J_5572 H locs eJ_5572 hP hD hS => ?_)
                          replace hFr := fr_J (f := 395) hFr hO_this (by decide +kernel) eJ_5572
                          replace hF := hF.trans (ap_n (vJ_st (f := 395) hO_this (by decide +kernel) eJ_5572))
                          refine lv_goto (tgt := 396) hx hb dX12_nextToken_242 (by decide +kernel) ?_
                          subst hQ
                          exact W.vret hx hb hr (fun t1 ht hW => ⟨⟨(σ, I_5439, J_5572, ri, rj, rq), rfl, ⟨I_5439, J_5572, rfl, hG, (by omega), (by omega), (by omega), (hF0.symm.trans hF), hFr⟩, by rw [ht]; exact hP, va_K.moved hW.alike hK, hD⟩, hS.F ht⟩) hS.2.2 dX12_nextToken_396
                      · replace hF := hF.trans (if_neg c_5548)
                        obtain ⟨f_5573, f_5574⟩ := (hr_5544.resolve_right (fun q => c_5548 q.1)).2
                        have uf_5573 := f_5573.1
                        have vf_5573 := f_5573.2
                        have tc_5575 : (x_5540).toInt ≠ 0 := fun q => c_5548 (Int32.toInt_inj.mp q)
                        have h_5576 : rg x_5540 1 1 := rg_ne c_5548 h_5547 0 rfl (by decide +kernel)
                        have uh_5576 := h_5576.1
                        have vh_5576 := h_5576.2
                        refine lv_aload_n hx hb dX12_nextToken_175 rfl (lv_at hl 0 rfl) ?_
                        refine pg_f (v := .int (I_5439 391 this)) (C := RX12) (T := TX12) (N := 31) hx hb hts (tw_i inlX12) hown hK hP hL_this hK_this (by decide +kernel) rfl 7 (by decide +kernel) (hts _ (tw_c tw_830)) rfl dX12_nextToken_176 ?_
                        refine lv_aload_n hx hb dX12_nextToken_179 rfl (lv_at hl 0 rfl) ?_
                        refine pg_f (v := .int (I_5439 392 this)) (C := RX12) (T := TX12) (N := 31) hx hb hts (tw_i inlX12) hown hK hP hL_this hK_this (by decide +kernel) rfl 8 (by decide +kernel) (hts _ (tw_c tw_820)) rfl dX12_nextToken_180 ?_
                        have h_5577 : rg (I_5439 392 this) 0 300 := GM.rI hG 392 rfl
                        have uh_5577 := h_5577.1
                        have vh_5577 := h_5577.2
                        replace hF := hF.trans (ap_n (vI_e (f := 392) hO_this (by decide +kernel)))
                        refine lv_isub hx hb dX12_nextToken_183 ?_
                        refine lv_topi (fun x_5579 ex_5579 => ?_)
                        replace hF := hF.trans (ap_n ex_5579)
                        have h_5580 : rg x_5579 (-300) 300 := rg_of_eq ex_5579 (rg_sub h_5527 h_5577 (by decide +kernel))
                        have uh_5580 := h_5580.1
                        have vh_5580 := h_5580.2
                        have tx_5579 : (x_5579).toInt = (I_5439 391 this).toInt - (I_5439 392 this).toInt := by rw [ex_5579]; exact i_sub_rg (a2 := (I_5439 391 this).toInt) (b2 := (I_5439 392 this).toInt) rfl rfl h_5527 h_5577 (by decide +kernel)
                        refine lv_bipush (v := 7) hx hb dX12_nextToken_184 (by decide +kernel) ?_
                        refine lv_icmp_ge (tgt := 210) hx hb dX12_nextToken_186 (by decide +kernel) (fun c_5581 => ?_) (fun c_5581 => ?_)
                        · replace hF := hF.trans (if_pos c_5581)
                          have tc_5586 : 7 ≤ (x_5579).toInt := Int32.le_iff_toInt_le.mp c_5581
                          have h_5587 : rg x_5579 7 300 := rg_le2 c_5581 (rg_k (7 : Int32) 7 rfl) h_5580 (by decide +kernel)
                          have uh_5587 := h_5587.1
                          have vh_5587 := h_5587.2
                          refine lv_aload_n hx hb dX12_nextToken_210 rfl (lv_at hl 0 rfl) ?_
                          refine lv_dup hx hb dX12_nextToken_211 rfl ?_
                          refine pg_f (v := .int (I_5439 391 this)) (C := RX12) (T := TX12) (N := 31) hx hb hts (tw_i inlX12) hown hK hP hL_this hK_this (by decide +kernel) rfl 7 (by decide +kernel) (hts _ (tw_c tw_830)) rfl dX12_nextToken_212 ?_
                          refine lv_iconst (v := 1) hx hb dX12_nextToken_215 (by decide +kernel) ?_
                          have h_5588 : rg (I_5439 391 this) 0 299 := ⟨by omega, by omega⟩
                          have uh_5588 := h_5588.1
                          have vh_5588 := h_5588.2
                          refine lv_iadd hx hb dX12_nextToken_216 ?_
                          refine lv_topi (fun x_5589 ex_5589 => ?_)
                          replace hF := hF.trans (ap_n ex_5589)
                          have h_5590 : rg x_5589 1 300 := rg_of_eq ex_5589 (rg_add h_5588 (rg_k (1 : Int32) 1 rfl) (by decide +kernel))
                          have uh_5590 := h_5590.1
                          have vh_5590 := h_5590.2
                          have tx_5589 : (x_5589).toInt = (I_5439 391 this).toInt + 1 := by rw [ex_5589]; exact i_add_rg (a2 := (I_5439 391 this).toInt) (b2 := 1) rfl rfl h_5588 (rg_k (1 : Int32) 1 rfl) (by decide +kernel)
                          refine pp_i (v := x_5589) (ty := .int) (C := RX12) (T := TX12) (N := 31) hx hb hts (tw_i inlX12) tyX12 tyX12_ok nmX12 hown hK hP hD hS hL_this hK_this (by decide +kernel) rfl 7 391 (by decide +kernel) (hts _ (tw_c tw_830)) rfl (tyX12_ok 7 (by decide +kernel)) rfl rfl (Nat.le_of_ble_eq_true rfl) (ps_391 _ _ _ _ _) dX12_nextToken_217 (fun I_5591 H locs eI_5591 hP hD hS => ?_)
                          replace hFr := fr_I (f := 391) hFr hO_this (by decide +kernel) eI_5591
                          replace hF := hF.trans (ap_n (vI_st (f := 391) hO_this (by decide +kernel) eI_5591))
                          have hG := GM.wI hG 391 rfl eI_5591 (rg_w h_5590 (by decide +kernel)) (by decide +kernel)
                          have tt_5592 : (I_5591 391 this).toInt = (x_5589).toInt := by rw [eI_5591, pq_us]
                          have tt_5593 : (I_5591 388 this).toInt = (I_5439 388 this).toInt := by rw [eI_5591, pq_uf _ _ _ (by decide +kernel)]
                          have tt_5594 : (I_5591 403 this).toInt = (I_5439 403 this).toInt := by rw [eI_5591, pq_uf _ _ _ (by decide +kernel)]
                          have tt_5595 : (I_5591 393 this).toInt = (I_5439 393 this).toInt := by rw [eI_5591, pq_uf _ _ _ (by decide +kernel)]
                          refine lv_goto (tgt := 161) hx hb dX12_nextToken_220 (by decide +kernel) ?_
                          exact ih_5524 I_5591 J_5440 _ _ _ (by omega) (ms_fu_iadd hm_5521 (by rw [eI_5591]; exact pq_us _ _ _ _) ex_5589 rfl (kk := 1) rfl (by decide +kernel) h_5588 (by decide +kernel) (by decide +kernel)) hF hFr hG hP hD hS (lv_sub hl [0] rfl)
                        · replace hF := hF.trans (if_neg c_5581)
                          have tc_5596 : (x_5579).toInt < 7 := Int32.lt_iff_toInt_lt.mp (nle c_5581)
                          have h_5597 : rg x_5579 (-300) 6 := rg_lt1 (nle c_5581) h_5580 (rg_k (7 : Int32) 7 rfl) (by decide +kernel)
                          have uh_5597 := h_5597.1
                          have vh_5597 := h_5597.2
                          refine lv_aload_n hx hb dX12_nextToken_189 rfl (lv_at hl 0 rfl) ?_
                          refine lv_aload_n hx hb dX12_nextToken_190 rfl (lv_at hl 0 rfl) ?_
                          refine pg_f (v := .long (J_5440 395 this)) (C := RX12) (T := TX12) (N := 31) hx hb hts (tw_i inlX12) hown hK hP hL_this hK_this (by decide +kernel) rfl 11 (by decide +kernel) (hts _ (tw_c tw_838)) rfl dX12_nextToken_191 ?_
                          replace hF := hF.trans (ap_n (vJ_e (f := 395) hO_this (by decide +kernel)))
                          refine lv_bipush (v := 8) hx hb dX12_nextToken_194 (by decide +kernel) ?_
                          refine lv_lshl hx hb dX12_nextToken_196 rfl ?_
                          refine lv_topl (fun x_5599 ex_5599 => ?_)
                          replace hF := hF.trans (ap_n ex_5599)
                          refine lv_aload_n hx hb dX12_nextToken_197 rfl (lv_at hl 0 rfl) ?_
                          refine lv_aload_n hx hb dX12_nextToken_198 rfl (lv_at hl 0 rfl) ?_
                          refine pg_f (v := .int (I_5439 391 this)) (C := RX12) (T := TX12) (N := 31) hx hb hts (tw_i inlX12) hown hK hP hL_this hK_this (by decide +kernel) rfl 7 (by decide +kernel) (hts _ (tw_c tw_830)) rfl dX12_nextToken_199 ?_
                          refine pk_i (va_runV (As := [.int (I_5439 391 this)]) (rest := [.long x_5599, .ref this]) ⟨hx, hb, hml, hown, hts⟩ (s_X12_see_x l D t σ I_5439 J_5440 ri rj rq H.size tg hSH hG.1 this (I_5439 391 this) hL_this hK_this (rg_w h_5527 (by decide +kernel)) this_tape hR_this_tape hL_this_tape hK_this_tape hN_this_tape hT_this_tape) (cwV 1 hts (tw_V tw_839 tw_840 tw_841 tw_5 tw_842) rfl rfl rfl cv_yX12_see_1 ⟨Nat.le_of_ble_eq_true rfl, Nat.le_of_ble_eq_true rfl⟩) ⟨pq_blind, pq_recv hK hP hL_this hK_this (by decide +kernel) rfl, pq_pre hK hN hP hD⟩ rfl rfl hl.1 rfl (lv_room (Nat.le_of_ble_eq_true rfl)) dX12_nextToken_202 ⟨Nat.le_of_ble_eq_true rfl, Nat.le_of_ble_eq_true rfl⟩) hD hS hA (fun x_5600 σ1 μ1 H locs hw_5601 hP hD hS => ?_)
                          obtain ⟨hu_5602, hp_5605, hfn_5606, hr_5604⟩ := hw_5601
                          obtain ⟨hu_5602a, hu_5602b⟩ := Prod.mk.inj hu_5602
                          rw [hu_5602a, hu_5602b] at hP hD
                          replace hF := hF.trans (bn_n hfn_5606)
                          have tt_5608 : ((x_5600).toInt = -1 ∧ (I_5439 388 this).toInt ≤ (I_5439 391 this).toInt) ∨ (0 ≤ (x_5600).toInt ∧ (I_5439 391 this).toInt < (I_5439 388 this).toInt) := hp_5605.elim Or.inl (fun q => Or.inr q.2)
                          have tt_5609 := (GM.rI hG 388 (a := this) (lo := 0) (hi := 300) rfl).2
                          refine lv_i2l hx hb dX12_nextToken_205 rfl ?_
                          refine lv_topl (fun x_5610 ex_5610 => ?_)
                          replace hF := hF.trans (ap_n ex_5610)
                          refine lv_lor hx hb dX12_nextToken_206 ?_
                          refine lv_topl (fun x_5611 ex_5611 => ?_)
                          replace hF := hF.trans (ap_n ex_5611)
                          refine pp_l (v := x_5611) (C := RX12) (T := TX12) (N := 31) hx hb hts (tw_i inlX12) tyX12 tyX12_ok nmX12 hown hK hP hD hS hL_this hK_this (by decide +kernel) rfl 11 395 (by decide +kernel) (hts _ (tw_c tw_838)) rfl (tyX12_ok 11 (by decide +kernel)) (Nat.le_of_ble_eq_true rfl) (ps_395 _ _ _ _ _) dX12_nextToken_207 (fun J_5612 H locs eJ_5612 hP hD hS => ?_)
                          replace hFr := fr_J (f := 395) hFr hO_this (by decide +kernel) eJ_5612
                          replace hF := hF.trans (ap_n (vJ_st (f := 395) hO_this (by decide +kernel) eJ_5612))
                          refine lv_aload_n hx hb dX12_nextToken_210 rfl (lv_at hl 0 rfl) ?_
                          refine lv_dup hx hb dX12_nextToken_211 rfl ?_
                          refine pg_f (v := .int (I_5439 391 this)) (C := RX12) (T := TX12) (N := 31) hx hb hts (tw_i inlX12) hown hK hP hL_this hK_this (by decide +kernel) rfl 7 (by decide +kernel) (hts _ (tw_c tw_830)) rfl dX12_nextToken_212 ?_
                          refine lv_iconst (v := 1) hx hb dX12_nextToken_215 (by decide +kernel) ?_
                          have h_5613 : rg (I_5439 391 this) 0 299 := ⟨by omega, by omega⟩
                          have uh_5613 := h_5613.1
                          have vh_5613 := h_5613.2
                          refine lv_iadd hx hb dX12_nextToken_216 ?_
                          refine lv_topi (fun x_5614 ex_5614 => ?_)
                          replace hF := hF.trans (ap_n ex_5614)
                          have h_5615 : rg x_5614 1 300 := rg_of_eq ex_5614 (rg_add h_5613 (rg_k (1 : Int32) 1 rfl) (by decide +kernel))
                          have uh_5615 := h_5615.1
                          have vh_5615 := h_5615.2
                          have tx_5614 : (x_5614).toInt = (I_5439 391 this).toInt + 1 := by rw [ex_5614]; exact i_add_rg (a2 := (I_5439 391 this).toInt) (b2 := 1) rfl rfl h_5613 (rg_k (1 : Int32) 1 rfl) (by decide +kernel)
                          refine pp_i (v := x_5614) (ty := .int) (C := RX12) (T := TX12) (N := 31) hx hb hts (tw_i inlX12) tyX12 tyX12_ok nmX12 hown hK hP hD hS hL_this hK_this (by decide +kernel) rfl 7 391 (by decide +kernel) (hts _ (tw_c tw_830)) rfl (tyX12_ok 7 (by decide +kernel)) rfl rfl (Nat.le_of_ble_eq_true rfl) (ps_391 _ _ _ _ _) dX12_nextToken_217 (fun I_5616 H locs eI_5616 hP hD hS => ?_)
                          replace hFr := fr_I (f := 391) hFr hO_this (by decide +kernel) eI_5616
                          replace hF := hF.trans (ap_n (vI_st (f := 391) hO_this (by decide +kernel) eI_5616))
                          have hG := GM.wI hG 391 rfl eI_5616 (rg_w h_5615 (by decide +kernel)) (by decide +kernel)
                          have tt_5617 : (I_5616 391 this).toInt = (x_5614).toInt := by rw [eI_5616, pq_us]
                          have tt_5618 : (I_5616 388 this).toInt = (I_5439 388 this).toInt := by rw [eI_5616, pq_uf _ _ _ (by decide +kernel)]
                          have tt_5619 : (I_5616 403 this).toInt = (I_5439 403 this).toInt := by rw [eI_5616, pq_uf _ _ _ (by decide +kernel)]
                          have tt_5620 : (I_5616 393 this).toInt = (I_5439 393 this).toInt := by rw [eI_5616, pq_uf _ _ _ (by decide +kernel)]
                          refine lv_goto (tgt := 161) hx hb dX12_nextToken_220 (by decide +kernel) ?_
                          exact ih_5524 I_5616 J_5612 _ _ _ (by omega) (ms_fu_iadd hm_5521 (by rw [eI_5616]; exact pq_us _ _ _ _) ex_5614 rfl (kk := 1) rfl (by decide +kernel) h_5613 (by decide +kernel) (by decide +kernel)) hF hFr hG hP hD hS (lv_sub hl [0] rfl)
                  replace hF := hF.trans (ap_n (vI_e (f := 391) hO_this (by decide +kernel)))
                  exact L_5523 _ I_5189 J_5194 _ _ _ (by omega) (Nat.lt_succ_self _) hF hFr hG hP hD hS (lv_sub hl [1] rfl)
              · replace hF := hF.trans (if_neg c_4500)
                obtain ⟨f_5622, f_5623⟩ := (hr_4496.resolve_right (fun q => c_4500 q.1)).2
                have uf_5622 := f_5622.1
                have vf_5622 := f_5622.2
                have tc_5624 : (x_4492).toInt ≠ 0 := fun q => c_4500 (Int32.toInt_inj.mp q)
                have h_5625 : rg x_4492 1 1 := rg_ne c_4500 h_4499 0 rfl (by decide +kernel)
                have uh_5625 := h_5625.1
                have vh_5625 := h_5625.2
                refine lv_aload_n hx hb dX12_nextToken_75 rfl (lv_at hl 1 rfl) ?_
                refine lv_iconst (v := 1) hx hb dX12_nextToken_76 (by decide +kernel) ?_
                refine pp_i (v := 1) (ty := .int) (C := RX12) (T := TX12) (N := 31) hx hb hts (tw_i inlX12) tyX12 tyX12_ok nmX12 hown hK hP hD hS hL_this hK_this (by decide +kernel) rfl 9 393 (by decide +kernel) (hts _ (tw_c tw_831)) rfl (tyX12_ok 9 (by decide +kernel)) rfl rfl (Nat.le_of_ble_eq_true rfl) (ps_393 _ _ _ _ _) dX12_nextToken_77 (fun I_5626 H locs eI_5626 hP hD hS => ?_)
                replace hFr := fr_I (f := 393) hFr hO_this (by decide +kernel) eI_5626
                replace hF := hF.trans (ap_n (vI_st (f := 393) hO_this (by decide +kernel) eI_5626))
                have hG := GM.wI hG 393 rfl eI_5626 (rg_w (rg_k (1 : Int32) 1 rfl) (by decide +kernel)) (by decide +kernel)
                have tt_5627 : (I_5626 391 this).toInt = (I_4468 391 this).toInt := by rw [eI_5626, pq_uf _ _ _ (by decide +kernel)]
                have tt_5628 : (I_5626 388 this).toInt = (I_4468 388 this).toInt := by rw [eI_5626, pq_uf _ _ _ (by decide +kernel)]
                have tt_5629 : (I_5626 403 this).toInt = (I_4468 403 this).toInt := by rw [eI_5626, pq_uf _ _ _ (by decide +kernel)]
                have tt_5630 : (I_5626 393 this).toInt = 1 := by rw [eI_5626, pq_us]; rfl
                refine lv_aload_n hx hb dX12_nextToken_80 rfl (lv_at hl 1 rfl) ?_
                refine lv_iconst (v := 0) hx hb dX12_nextToken_81 (by decide +kernel) ?_
                refine pp_i (v := 0) (ty := .int) (C := RX12) (T := TX12) (N := 31) hx hb hts (tw_i inlX12) tyX12 tyX12_ok nmX12 hown hK hP hD hS hL_this hK_this (by decide +kernel) rfl 10 394 (by decide +kernel) (hts _ (tw_c tw_836)) rfl (tyX12_ok 10 (by decide +kernel)) rfl rfl (Nat.le_of_ble_eq_true rfl) (ps_394 _ _ _ _ _) dX12_nextToken_82 (fun I_5631 H locs eI_5631 hP hD hS => ?_)
                replace hFr := fr_I (f := 394) hFr hO_this (by decide +kernel) eI_5631
                replace hF := hF.trans (ap_n (vI_st (f := 394) hO_this (by decide +kernel) eI_5631))
                have hG := GM.wI hG 394 rfl eI_5631 (rg_w (rg_k (0 : Int32) 0 rfl) (by decide +kernel)) (by decide +kernel)
                have tt_5632 : (I_5631 391 this).toInt = (I_5626 391 this).toInt := by rw [eI_5631, pq_uf _ _ _ (by decide +kernel)]
                have tt_5633 : (I_5631 388 this).toInt = (I_5626 388 this).toInt := by rw [eI_5631, pq_uf _ _ _ (by decide +kernel)]
                have tt_5634 : (I_5631 403 this).toInt = (I_5626 403 this).toInt := by rw [eI_5631, pq_uf _ _ _ (by decide +kernel)]
                have tt_5635 : (I_5631 393 this).toInt = (I_5626 393 this).toInt := by rw [eI_5631, pq_uf _ _ _ (by decide +kernel)]
                have L_5923 : ∀ (n_5922 : Nat) (I_5848 : Nat → Nat → Int32) (H : Heap) (locs : List Loc) (ls : Array Slot), ((I_3315 391 this).toInt ≤ (I_5848 391 this).toInt ∧ (I_5848 388 this).toInt = (I 388 this).toInt ∧ (I_5848 403 this).toInt = (I 403 this).toInt) → (300 - (I_5848 391 this).toInt).toNat < n_5922 → F = g_X12_nextToken_x_L85 (vJ 12 σ this J) (vR 12 σ this ri) (vL 12 σ this rj) (vQ 12 σ this rq) n_5922 (vI 12 σ this I_5848) → FR 12 tg σ this (I, J, ri, rj, rq) (I_5848, J, ri, rj, rq) → GM [391, 392, 393] tg σ I ri I_5848 ri rq → va_P D vwCl (pq_P t σ (I_5848, J, ri, rj, rq)) H → va_D A (pq_P t σ (I_5848, J, ri, rj, rq)) → va_S A s.heap H locs → lv_has ls 3 [(0, .ref this)] → W p l e ({ frames := 2, cells := 0, slots := 0, locals := 42 } : Room) s m (List.toArray ([.ref this] : List Value)) below meth c H locs 0 0 Q (F0 m 85 ls []) := by
                  intro n_5922
                  induction n_5922 with
                  | zero => intro I_5848 H locs ls hrel_5926 hm_5921 hF hFr hG hP hD hS hl; exact absurd hm_5921 (Nat.not_lt_zero _)
                  | succ n_5922 ih_5924 =>
                    intro I_5848 H locs ls hrel_5926 hm_5921 hF hFr hG hP hD hS hl
                    replace hF := hF.trans g_X12_nextToken_x_L85_e
                    refine lv_aload_n hx hb dX12_nextToken_85 rfl (lv_at hl 0 rfl) ?_
                    refine lv_aload_n hx hb dX12_nextToken_86 rfl (lv_at hl 0 rfl) ?_
                    refine pg_f (v := .int (I_5848 391 this)) (C := RX12) (T := TX12) (N := 31) hx hb hts (tw_i inlX12) hown hK hP hL_this hK_this (by decide +kernel) rfl 7 (by decide +kernel) (hts _ (tw_c tw_830)) rfl dX12_nextToken_87 ?_
                    have h_5927 : rg (I_5848 391 this) 0 300 := GM.rI hG 391 rfl
                    have uh_5927 := h_5927.1
                    have vh_5927 := h_5927.2
                    replace hF := hF.trans (ap_n (vI_e (f := 391) hO_this (by decide +kernel)))
                    refine pk_i (va_runV (As := [.int (I_5848 391 this)]) (rest := []) ⟨hx, hb, hml, hown, hts⟩ (s_X12_see_x l D t σ I_5848 J ri rj rq H.size tg hSH hG.1 this (I_5848 391 this) hL_this hK_this (rg_w h_5927 (by decide +kernel)) this_tape hR_this_tape hL_this_tape hK_this_tape hN_this_tape hT_this_tape) (cwV 1 hts (tw_V tw_839 tw_840 tw_841 tw_5 tw_842) rfl rfl rfl cv_yX12_see_1 ⟨Nat.le_of_ble_eq_true rfl, Nat.le_of_ble_eq_true rfl⟩) ⟨pq_blind, pq_recv hK hP hL_this hK_this (by decide +kernel) rfl, pq_pre hK hN hP hD⟩ rfl rfl hl.1 rfl (lv_room (Nat.le_of_ble_eq_true rfl)) dX12_nextToken_90 ⟨Nat.le_of_ble_eq_true rfl, Nat.le_of_ble_eq_true rfl⟩) hD hS hA (fun x_5929 σ1 μ1 H locs hw_5930 hP hD hS => ?_)
                    obtain ⟨hu_5931, hp_5934, hfn_5935, hr_5933⟩ := hw_5930
                    obtain ⟨hu_5931a, hu_5931b⟩ := Prod.mk.inj hu_5931
                    rw [hu_5931a, hu_5931b] at hP hD
                    replace hF := hF.trans (bn_n hfn_5935)
                    have tt_5937 : ((x_5929).toInt = -1 ∧ (I_5848 388 this).toInt ≤ (I_5848 391 this).toInt) ∨ (0 ≤ (x_5929).toInt ∧ (I_5848 391 this).toInt < (I_5848 388 this).toInt) := hp_5934.elim Or.inl (fun q => Or.inr q.2)
                    have tt_5938 := (GM.rI hG 388 (a := this) (lo := 0) (hi := 300) rfl).2
                    have tt_5939 : (I_5848 391 this).toInt = (I_4468 391 this).toInt → (x_5929).toInt = (x_4475).toInt := fun q => by have e := Int32.toInt_inj.mp q; rcases hp_4480 with ⟨a, b⟩ | ⟨a, b, c⟩ <;> rcases hp_5934 with ⟨a2, b2⟩ | ⟨a2, b2, c2⟩ <;> first | omega | (rw [a, a2, e])
                    refine pk_i (va_runS (As := [.int x_5929]) (rest := []) ⟨hx, hb, hml, hown, hts⟩ (s_X12_isDigit_x l D t σ I_5848 J ri rj rq H.size tg hSH hG.1 x_5929) (va_cwS 1 hts (tw_S tw_843 tw_844 tw_5 tw_845) rfl rfl rfl cd_yX12_isDigit_1 ⟨Nat.le_of_ble_eq_true rfl, Nat.le_of_ble_eq_true rfl⟩) ⟨pq_blind, pq_pre hK hN hP hD⟩ rfl rfl hl.1 rfl (lv_room (Nat.le_of_ble_eq_true rfl)) dX12_nextToken_93 ⟨Nat.le_of_ble_eq_true rfl, Nat.le_of_ble_eq_true rfl⟩) hD hS hA (fun x_5940 σ1 μ1 H locs hw_5941 hP hD hS => ?_)
                    obtain ⟨hu_5942, hfn_5945, hr_5944⟩ := hw_5941
                    obtain ⟨hu_5942a, hu_5942b⟩ := Prod.mk.inj hu_5942
                    rw [hu_5942a, hu_5942b] at hP hD
                    replace hF := hF.trans (ap_n hfn_5945.symm)
                    have h_5947 : rg x_5940 0 1 := by rcases hr_5944 with ⟨q, -⟩ | ⟨q, -⟩ <;> rw [q] <;> exact ⟨by decide +kernel, by decide +kernel⟩
                    have uh_5947 := h_5947.1
                    have vh_5947 := h_5947.2
                    refine lv_if_eq (tgt := 396) hx hb dX12_nextToken_96 (by decide +kernel) (fun c_5948 => ?_) (fun c_5948 => ?_)
                    · replace hF := hF.trans (if_pos c_5948)
                      have f_5956 := (hr_5944.resolve_left (fun q => absurd (q.1.symm.trans c_5948) (by decide +kernel))).2
                      have tc_5957 : (x_5940).toInt = 0 := congrArg Int32.toInt c_5948
                      have h_5958 : rg x_5940 0 0 := rg_and h_5947 (rg_of_eq c_5948 (rg_k (0 : Int32) 0 rfl)) (by decide +kernel)
                      have uh_5958 := h_5958.1
                      have vh_5958 := h_5958.2
                      subst hQ
                      exact W.vret hx hb hr (fun t1 ht hW => ⟨⟨(σ, I_5848, J, ri, rj, rq), rfl, ⟨I_5848, J, rfl, hG, (by omega), (by omega), (by omega), (hF0.symm.trans hF), hFr⟩, by rw [ht]; exact hP, va_K.moved hW.alike hK, hD⟩, hS.F ht⟩) hS.2.2 dX12_nextToken_396
                    · replace hF := hF.trans (if_neg c_5948)
                      obtain ⟨f_5959, f_5960⟩ := (hr_5944.resolve_right (fun q => c_5948 q.1)).2
                      have uf_5959 := f_5959.1
                      have vf_5959 := f_5959.2
                      have tc_5961 : (x_5940).toInt ≠ 0 := fun q => c_5948 (Int32.toInt_inj.mp q)
                      have h_5962 : rg x_5940 1 1 := rg_ne c_5948 h_5947 0 rfl (by decide +kernel)
                      have uh_5962 := h_5962.1
                      have vh_5962 := h_5962.2
                      refine lv_aload_n hx hb dX12_nextToken_99 rfl (lv_at hl 0 rfl) ?_
                      refine pg_f (v := .int (I_5848 394 this)) (C := RX12) (T := TX12) (N := 31) hx hb hts (tw_i inlX12) hown hK hP hL_this hK_this (by decide +kernel) rfl 10 (by decide +kernel) (hts _ (tw_c tw_836)) rfl dX12_nextToken_100 ?_
                      replace hF := hF.trans (ap_n (vI_e (f := 394) hO_this (by decide +kernel)))
                      refine lv_ldc hx hb hown (hts _ (tw_c tw_837)) dX12_nextToken_103 ?_
                      refine lv_icmp_ge (tgt := 131) hx hb dX12_nextToken_105 (by decide +kernel) (fun c_5964 => ?_) (fun c_5964 => ?_)
                      · replace hF := hF.trans (if_pos c_5964)
                        have tc_5969 : 100000 ≤ (I_5848 394 this).toInt := Int32.le_iff_toInt_le.mp c_5964
                        have h_5970 : rg (I_5848 394 this) 100000 2147483647 := rg_le2 c_5964 (rg_k (100000 : Int32) 100000 rfl) (rg_full _) (by decide +kernel)
                        have uh_5970 := h_5970.1
                        have vh_5970 := h_5970.2
                        refine lv_aload_n hx hb dX12_nextToken_131 rfl (lv_at hl 0 rfl) ?_
                        refine lv_dup hx hb dX12_nextToken_132 rfl ?_
                        refine pg_f (v := .int (I_5848 391 this)) (C := RX12) (T := TX12) (N := 31) hx hb hts (tw_i inlX12) hown hK hP hL_this hK_this (by decide +kernel) rfl 7 (by decide +kernel) (hts _ (tw_c tw_830)) rfl dX12_nextToken_133 ?_
                        refine lv_iconst (v := 1) hx hb dX12_nextToken_136 (by decide +kernel) ?_
                        have h_5971 : rg (I_5848 391 this) 0 299 := ⟨by omega, by omega⟩
                        have uh_5971 := h_5971.1
                        have vh_5971 := h_5971.2
                        refine lv_iadd hx hb dX12_nextToken_137 ?_
                        refine lv_topi (fun x_5972 ex_5972 => ?_)
                        replace hF := hF.trans (ap_n ex_5972)
                        have h_5973 : rg x_5972 1 300 := rg_of_eq ex_5972 (rg_add h_5971 (rg_k (1 : Int32) 1 rfl) (by decide +kernel))
                        have uh_5973 := h_5973.1
                        have vh_5973 := h_5973.2
                        have tx_5972 : (x_5972).toInt = (I_5848 391 this).toInt + 1 := by rw [ex_5972]; exact i_add_rg (a2 := (I_5848 391 this).toInt) (b2 := 1) rfl rfl h_5971 (rg_k (1 : Int32) 1 rfl) (by decide +kernel)
                        refine pp_i (v := x_5972) (ty := .int) (C := RX12) (T := TX12) (N := 31) hx hb hts (tw_i inlX12) tyX12 tyX12_ok nmX12 hown hK hP hD hS hL_this hK_this (by decide +kernel) rfl 7 391 (by decide +kernel) (hts _ (tw_c tw_830)) rfl (tyX12_ok 7 (by decide +kernel)) rfl rfl (Nat.le_of_ble_eq_true rfl) (ps_391 _ _ _ _ _) dX12_nextToken_138 (fun I_5974 H locs eI_5974 hP hD hS => ?_)
                        replace hFr := fr_I (f := 391) hFr hO_this (by decide +kernel) eI_5974
                        replace hF := hF.trans (ap_n (vI_st (f := 391) hO_this (by decide +kernel) eI_5974))
                        have hG := GM.wI hG 391 rfl eI_5974 (rg_w h_5973 (by decide +kernel)) (by decide +kernel)
                        have tt_5975 : (I_5974 391 this).toInt = (x_5972).toInt := by rw [eI_5974, pq_us]
                        have tt_5976 : (I_5974 388 this).toInt = (I_5848 388 this).toInt := by rw [eI_5974, pq_uf _ _ _ (by decide +kernel)]
                        have tt_5977 : (I_5974 403 this).toInt = (I_5848 403 this).toInt := by rw [eI_5974, pq_uf _ _ _ (by decide +kernel)]
                        have tt_5978 : (I_5974 393 this).toInt = (I_5848 393 this).toInt := by rw [eI_5974, pq_uf _ _ _ (by decide +kernel)]
                        refine lv_goto (tgt := 85) hx hb dX12_nextToken_141 (by decide +kernel) ?_
                        exact ih_5924 I_5974 _ _ _ (by omega) (ms_fu_iadd hm_5921 (by rw [eI_5974]; exact pq_us _ _ _ _) ex_5972 rfl (kk := 1) rfl (by decide +kernel) h_5971 (by decide +kernel) (by decide +kernel)) hF hFr hG hP hD hS (lv_sub hl [0] rfl)
                      · replace hF := hF.trans (if_neg c_5964)
                        have tc_5979 : (I_5848 394 this).toInt < 100000 := Int32.lt_iff_toInt_lt.mp (nle c_5964)
                        have h_5980 : rg (I_5848 394 this) (-2147483648) 99999 := rg_lt1 (nle c_5964) (rg_full _) (rg_k (100000 : Int32) 100000 rfl) (by decide +kernel)
                        have uh_5980 := h_5980.1
                        have vh_5980 := h_5980.2
                        refine lv_aload_n hx hb dX12_nextToken_108 rfl (lv_at hl 0 rfl) ?_
                        refine lv_bipush (v := 10) hx hb dX12_nextToken_109 (by decide +kernel) ?_
                        refine lv_aload_n hx hb dX12_nextToken_111 rfl (lv_at hl 0 rfl) ?_
                        refine pg_f (v := .int (I_5848 394 this)) (C := RX12) (T := TX12) (N := 31) hx hb hts (tw_i inlX12) hown hK hP hL_this hK_this (by decide +kernel) rfl 10 (by decide +kernel) (hts _ (tw_c tw_836)) rfl dX12_nextToken_112 ?_
                        refine lv_imul hx hb dX12_nextToken_115 ?_
                        refine lv_topi (fun x_5981 ex_5981 => ?_)
                        replace hF := hF.trans (ap_n ex_5981)
                        refine lv_aload_n hx hb dX12_nextToken_116 rfl (lv_at hl 0 rfl) ?_
                        refine lv_aload_n hx hb dX12_nextToken_117 rfl (lv_at hl 0 rfl) ?_
                        refine pg_f (v := .int (I_5848 391 this)) (C := RX12) (T := TX12) (N := 31) hx hb hts (tw_i inlX12) hown hK hP hL_this hK_this (by decide +kernel) rfl 7 (by decide +kernel) (hts _ (tw_c tw_830)) rfl dX12_nextToken_118 ?_
                        refine pk_i (va_runV (As := [.int (I_5848 391 this)]) (rest := [.int x_5981, .ref this]) ⟨hx, hb, hml, hown, hts⟩ (s_X12_see_x l D t σ I_5848 J ri rj rq H.size tg hSH hG.1 this (I_5848 391 this) hL_this hK_this (rg_w h_5927 (by decide +kernel)) this_tape hR_this_tape hL_this_tape hK_this_tape hN_this_tape hT_this_tape) (cwV 1 hts (tw_V tw_839 tw_840 tw_841 tw_5 tw_842) rfl rfl rfl cv_yX12_see_1 ⟨Nat.le_of_ble_eq_true rfl, Nat.le_of_ble_eq_true rfl⟩) ⟨pq_blind, pq_recv hK hP hL_this hK_this (by decide +kernel) rfl, pq_pre hK hN hP hD⟩ rfl rfl hl.1 rfl (lv_room (Nat.le_of_ble_eq_true rfl)) dX12_nextToken_121 ⟨Nat.le_of_ble_eq_true rfl, Nat.le_of_ble_eq_true rfl⟩) hD hS hA (fun x_5982 σ1 μ1 H locs hw_5983 hP hD hS => ?_)
                        obtain ⟨hu_5984, hp_5987, hfn_5988, hr_5986⟩ := hw_5983
                        obtain ⟨hu_5984a, hu_5984b⟩ := Prod.mk.inj hu_5984
                        rw [hu_5984a, hu_5984b] at hP hD
                        replace hF := hF.trans (bn_n hfn_5988)
                        have tt_5990 : ((x_5982).toInt = -1 ∧ (I_5848 388 this).toInt ≤ (I_5848 391 this).toInt) ∨ (0 ≤ (x_5982).toInt ∧ (I_5848 391 this).toInt < (I_5848 388 this).toInt) := hp_5987.elim Or.inl (fun q => Or.inr q.2)
                        have tt_5991 := (GM.rI hG 388 (a := this) (lo := 0) (hi := 300) rfl).2
                        refine lv_iadd hx hb dX12_nextToken_124 ?_
                        refine lv_topi (fun x_5992 ex_5992 => ?_)
                        replace hF := hF.trans (ap_n ex_5992)
                        refine lv_bipush (v := 48) hx hb dX12_nextToken_125 (by decide +kernel) ?_
                        refine lv_isub hx hb dX12_nextToken_127 ?_
                        refine lv_topi (fun x_5993 ex_5993 => ?_)
                        replace hF := hF.trans (ap_n ex_5993)
                        refine pp_i (v := x_5993) (ty := .int) (C := RX12) (T := TX12) (N := 31) hx hb hts (tw_i inlX12) tyX12 tyX12_ok nmX12 hown hK hP hD hS hL_this hK_this (by decide +kernel) rfl 10 394 (by decide +kernel) (hts _ (tw_c tw_836)) rfl (tyX12_ok 10 (by decide +kernel)) rfl rfl (Nat.le_of_ble_eq_true rfl) (ps_394 _ _ _ _ _) dX12_nextToken_128 (fun I_5994 H locs eI_5994 hP hD hS => ?_)
                        replace hFr := fr_I (f := 394) hFr hO_this (by decide +kernel) eI_5994
                        replace hF := hF.trans (ap_n (vI_st (f := 394) hO_this (by decide +kernel) eI_5994))
                        have hG := GM.wI hG 394 rfl eI_5994 (rg_w (rg_full _) (by decide +kernel)) (by decide +kernel)
                        have tt_5995 : (I_5994 391 this).toInt = (I_5848 391 this).toInt := by rw [eI_5994, pq_uf _ _ _ (by decide +kernel)]
                        have tt_5996 : (I_5994 388 this).toInt = (I_5848 388 this).toInt := by rw [eI_5994, pq_uf _ _ _ (by decide +kernel)]
                        have tt_5997 : (I_5994 403 this).toInt = (I_5848 403 this).toInt := by rw [eI_5994, pq_uf _ _ _ (by decide +kernel)]
                        have tt_5998 : (I_5994 393 this).toInt = (I_5848 393 this).toInt := by rw [eI_5994, pq_uf _ _ _ (by decide +kernel)]
                        refine lv_aload_n hx hb dX12_nextToken_131 rfl (lv_at hl 0 rfl) ?_
                        refine lv_dup hx hb dX12_nextToken_132 rfl ?_
                        refine pg_f (v := .int (I_5994 391 this)) (C := RX12) (T := TX12) (N := 31) hx hb hts (tw_i inlX12) hown hK hP hL_this hK_this (by decide +kernel) rfl 7 (by decide +kernel) (hts _ (tw_c tw_830)) rfl dX12_nextToken_133 ?_
                        have h_5999 : rg (I_5994 391 this) 0 300 := GM.rI hG 391 rfl
                        have uh_5999 := h_5999.1
                        have vh_5999 := h_5999.2
                        replace hF := hF.trans (ap_n (vI_e (f := 391) hO_this (by decide +kernel)))
                        refine lv_iconst (v := 1) hx hb dX12_nextToken_136 (by decide +kernel) ?_
                        have h_6001 : rg (I_5994 391 this) 0 299 := ⟨by omega, by omega⟩
                        have uh_6001 := h_6001.1
                        have vh_6001 := h_6001.2
                        refine lv_iadd hx hb dX12_nextToken_137 ?_
                        refine lv_topi (fun x_6002 ex_6002 => ?_)
                        replace hF := hF.trans (ap_n ex_6002)
                        have h_6003 : rg x_6002 1 300 := rg_of_eq ex_6002 (rg_add h_6001 (rg_k (1 : Int32) 1 rfl) (by decide +kernel))
                        have uh_6003 := h_6003.1
                        have vh_6003 := h_6003.2
                        have tx_6002 : (x_6002).toInt = (I_5994 391 this).toInt + 1 := by rw [ex_6002]; exact i_add_rg (a2 := (I_5994 391 this).toInt) (b2 := 1) rfl rfl h_6001 (rg_k (1 : Int32) 1 rfl) (by decide +kernel)
                        refine pp_i (v := x_6002) (ty := .int) (C := RX12) (T := TX12) (N := 31) hx hb hts (tw_i inlX12) tyX12 tyX12_ok nmX12 hown hK hP hD hS hL_this hK_this (by decide +kernel) rfl 7 391 (by decide +kernel) (hts _ (tw_c tw_830)) rfl (tyX12_ok 7 (by decide +kernel)) rfl rfl (Nat.le_of_ble_eq_true rfl) (ps_391 _ _ _ _ _) dX12_nextToken_138 (fun I_6004 H locs eI_6004 hP hD hS => ?_)
                        replace hFr := fr_I (f := 391) hFr hO_this (by decide +kernel) eI_6004
                        replace hF := hF.trans (ap_n (vI_st (f := 391) hO_this (by decide +kernel) eI_6004))
                        have hG := GM.wI hG 391 rfl eI_6004 (rg_w h_6003 (by decide +kernel)) (by decide +kernel)
                        have tt_6005 : (I_6004 391 this).toInt = (x_6002).toInt := by rw [eI_6004, pq_us]
                        have tt_6006 : (I_6004 388 this).toInt = (I_5994 388 this).toInt := by rw [eI_6004, pq_uf _ _ _ (by decide +kernel)]
                        have tt_6007 : (I_6004 403 this).toInt = (I_5994 403 this).toInt := by rw [eI_6004, pq_uf _ _ _ (by decide +kernel)]
                        have tt_6008 : (I_6004 393 this).toInt = (I_5994 393 this).toInt := by rw [eI_6004, pq_uf _ _ _ (by decide +kernel)]
                        refine lv_goto (tgt := 85) hx hb dX12_nextToken_141 (by decide +kernel) ?_
                        exact ih_5924 I_6004 _ _ _ (by omega) (ms_fu_iadd hm_5921 (by rw [eI_6004]; exact pq_us _ _ _ _) ex_6002 ((congrFun (show I_5994 391 = I_5848 391 from by rw [eI_5994]; exact pq_uf _ _ _ (by decide +kernel)) this).trans rfl) (kk := 1) rfl (by decide +kernel) h_6001 (by decide +kernel) (by decide +kernel)) hF hFr hG hP hD hS (lv_sub hl [0] rfl)
                replace hF := hF.trans (ap_n (vI_e (f := 391) hO_this (by decide +kernel)))
                exact L_5923 _ I_5631 _ _ _ (by omega) (Nat.lt_succ_self _) hF hFr hG hP hD hS (lv_sub hl [1] rfl)
            · replace hF := hF.trans (if_neg c_4485)
              have tc_6010 : (x_4475).toInt < 0 := Int32.lt_iff_toInt_lt.mp (nle c_4485)
              have h_6011 : rg x_4475 (-1) (-1) := rg_lt1 (nle c_4485) hr_4479 (rg_k (0 : Int32) 0 rfl) (by decide +kernel)
              have uh_6011 := h_6011.1
              have vh_6011 := h_6011.2
              refine lv_aload_n hx hb dX12_nextToken_60 rfl (lv_at hl 1 rfl) ?_
              refine lv_iconst (v := 0) hx hb dX12_nextToken_61 (by decide +kernel) ?_
              refine pp_i (v := 0) (ty := .int) (C := RX12) (T := TX12) (N := 31) hx hb hts (tw_i inlX12) tyX12 tyX12_ok nmX12 hown hK hP hD hS hL_this hK_this (by decide +kernel) rfl 9 393 (by decide +kernel) (hts _ (tw_c tw_831)) rfl (tyX12_ok 9 (by decide +kernel)) rfl rfl (Nat.le_of_ble_eq_true rfl) (ps_393 _ _ _ _ _) dX12_nextToken_62 (fun I_6012 H locs eI_6012 hP hD hS => ?_)
              replace hFr := fr_I (f := 393) hFr hO_this (by decide +kernel) eI_6012
              replace hF := hF.trans (ap_n (vI_st (f := 393) hO_this (by decide +kernel) eI_6012))
              have hG := GM.wI hG 393 rfl eI_6012 (rg_w (rg_k (0 : Int32) 0 rfl) (by decide +kernel)) (by decide +kernel)
              have tt_6013 : (I_6012 391 this).toInt = (I_4468 391 this).toInt := by rw [eI_6012, pq_uf _ _ _ (by decide +kernel)]
              have tt_6014 : (I_6012 388 this).toInt = (I_4468 388 this).toInt := by rw [eI_6012, pq_uf _ _ _ (by decide +kernel)]
              have tt_6015 : (I_6012 403 this).toInt = (I_4468 403 this).toInt := by rw [eI_6012, pq_uf _ _ _ (by decide +kernel)]
              have tt_6016 : (I_6012 393 this).toInt = 0 := by rw [eI_6012, pq_us]; rfl
              refine lv_goto (tgt := 396) hx hb dX12_nextToken_65 (by decide +kernel) ?_
              subst hQ
              exact W.vret hx hb hr (fun t1 ht hW => ⟨⟨(σ, I_6012, J, ri, rj, rq), rfl, ⟨I_6012, J, rfl, hG, (by omega), (by omega), (by omega), (hF0.symm.trans hF), hFr⟩, by rw [ht]; exact hP, va_K.moved hW.alike hK, hD⟩, hS.F ht⟩) hS.2.2 dX12_nextToken_396
          · replace hF := hF.trans (if_pos c_4463)
            have tc_6017 : (x_4453).toInt = 10 := congrArg Int32.toInt c_4463
            have h_6018 : rg x_4453 10 10 := rg_and hr_4457 (rg_of_eq c_4463 (rg_k (10 : Int32) 10 rfl)) (by decide +kernel)
            have uh_6018 := h_6018.1
            have vh_6018 := h_6018.2
            refine lv_aload_n hx hb dX12_nextToken_26 rfl (lv_at hl 0 rfl) ?_
            refine lv_dup hx hb dX12_nextToken_27 rfl ?_
            refine pg_f (v := .int (I_3315 391 this)) (C := RX12) (T := TX12) (N := 31) hx hb hts (tw_i inlX12) hown hK hP hL_this hK_this (by decide +kernel) rfl 7 (by decide +kernel) (hts _ (tw_c tw_830)) rfl dX12_nextToken_28 ?_
            refine lv_iconst (v := 1) hx hb dX12_nextToken_31 (by decide +kernel) ?_
            have h_6019 : rg (I_3315 391 this) 0 299 := ⟨by omega, by omega⟩
            have uh_6019 := h_6019.1
            have vh_6019 := h_6019.2
            refine lv_iadd hx hb dX12_nextToken_32 ?_
            refine lv_topi (fun x_6020 ex_6020 => ?_)
            replace hF := hF.trans (ap_n ex_6020)
            have h_6021 : rg x_6020 1 300 := rg_of_eq ex_6020 (rg_add h_6019 (rg_k (1 : Int32) 1 rfl) (by decide +kernel))
            have uh_6021 := h_6021.1
            have vh_6021 := h_6021.2
            have tx_6020 : (x_6020).toInt = (I_3315 391 this).toInt + 1 := by rw [ex_6020]; exact i_add_rg (a2 := (I_3315 391 this).toInt) (b2 := 1) rfl rfl h_6019 (rg_k (1 : Int32) 1 rfl) (by decide +kernel)
            refine pp_i (v := x_6020) (ty := .int) (C := RX12) (T := TX12) (N := 31) hx hb hts (tw_i inlX12) tyX12 tyX12_ok nmX12 hown hK hP hD hS hL_this hK_this (by decide +kernel) rfl 7 391 (by decide +kernel) (hts _ (tw_c tw_830)) rfl (tyX12_ok 7 (by decide +kernel)) rfl rfl (Nat.le_of_ble_eq_true rfl) (ps_391 _ _ _ _ _) dX12_nextToken_33 (fun I_6022 H locs eI_6022 hP hD hS => ?_)
            replace hFr := fr_I (f := 391) hFr hO_this (by decide +kernel) eI_6022
            replace hF := hF.trans (ap_n (vI_st (f := 391) hO_this (by decide +kernel) eI_6022))
            have hG := GM.wI hG 391 rfl eI_6022 (rg_w h_6021 (by decide +kernel)) (by decide +kernel)
            have tt_6023 : (I_6022 391 this).toInt = (x_6020).toInt := by rw [eI_6022, pq_us]
            have tt_6024 : (I_6022 388 this).toInt = (I_3315 388 this).toInt := by rw [eI_6022, pq_uf _ _ _ (by decide +kernel)]
            have tt_6025 : (I_6022 403 this).toInt = (I_3315 403 this).toInt := by rw [eI_6022, pq_uf _ _ _ (by decide +kernel)]
            have tt_6026 : (I_6022 393 this).toInt = (I_3315 393 this).toInt := by rw [eI_6022, pq_uf _ _ _ (by decide +kernel)]
            refine lv_goto (tgt := 0) hx hb dX12_nextToken_36 (by decide +kernel) ?_
            exact ih_4423 I_6022 _ _ _ (by omega) (ms_fu_iadd hm_4420 (by rw [eI_6022]; exact pq_us _ _ _ _) ex_6020 rfl (kk := 1) rfl (by decide +kernel) h_6019 (by decide +kernel) (by decide +kernel)) hF hFr hG hP hD hS (lv_sub hl [0] rfl)
    replace hF := hF.trans (ap_n (vI_e (f := 391) hO_this (by decide +kernel)))
    exact L_4422 _ I _ _ _ (by omega) (Nat.lt_succ_self _) hF hFr hG hP hD hS (lv_sub hl [0] rfl)
  exact go _ _ _ hP hD hS hl
