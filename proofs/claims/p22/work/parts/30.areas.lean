/-! ===== the reference: one array with areas ===== -/
theorem rg_m255 (x : Int32) : rg (x &&& 255) 0 255 := by
  obtain ⟨j, hj, e⟩ := pk_andE x (m := 255) 8 (by decide)
  rw [e]
  have h := nI_toInt (n := j) (by omega)
  exact ⟨by omega, by omega⟩
theorem i_mul_rg {x y : Int32} {a b c d a2 b2 : Int} (e1 : x.toInt = a2) (e2 : y.toInt = b2) (hx : rg x a b) (hy : rg y c d) (h : 0 ≤ a ∧ 0 ≤ c ∧ b * d ≤ 2147483647) : (x * y).toInt = a2 * b2 := by
  have h1 := rg_mul (lo := 0) (hi := 2147483647) hx hy ⟨h, Int.mul_nonneg h.1 h.2.1, h.2.2⟩
  obtain ⟨x1, x2⟩ := hx
  obtain ⟨y1, y2⟩ := hy
  have p2 : x.toInt * y.toInt ≤ b * d := Int.mul_le_mul x2 y2 (Int.le_trans h.2.1 y1) (Int.le_trans h.1 (Int.le_trans x1 x2))
  have p3 : 0 ≤ x.toInt * y.toInt := Int.mul_nonneg (Int.le_trans h.1 x1) (Int.le_trans h.2.1 y1)
  rw [e1, e2] at p2 p3
  exact i_mul e1 e2 (by omega) (by omega)
def zn (i : Nat) : Nat := if i < 20 then i else if i < 80 then 100 + (i - 20) % 5 else if i < 85 then 200 else if i < 100 then 999 else if i < 740 then 300 + (i - 100) % 16 else if i < 1220 then 400 + (i - 740) % 12 else if i < 2220 then 500 + (i - 1220) % 5 else if i < 2340 then 600 + (i - 2220) % 4 else if i < 2400 then 999 else if i < 2520 then 700 + (i - 2400) % 4 else if i < 3720 then 800 + (i - 2520) % 2 else if i < 12720 then (if (i - 3720) % 900 = 0 then 900 else if (i - 3720) % 900 < 241 then 910 + ((i - 3720) % 900 - 1) % 12 else if (i - 3720) % 900 < 250 then 999 else 930 + ((i - 3720) % 900 - 250) % 2) else 999
def rIml : List (Int × Int) := [(-2147483648, 2147483647), (-2147483648, 2147483647), (-2147483648, 2147483647), (-2147483648, 2147483647), (0, 300), ((-2147483648), 2147483647), ((-2147483648), 2147483647), (0, 300), (0, 300), ((-2147483648), 2147483647), ((-2147483648), 2147483647), (-2147483648, 2147483647), (0, 11820), (0, 20), (0, 300), ((-2147483648), 2147483647), (-2147483648, 2147483647), (0, 160), ((-2147483648), 2147483647), (0, 1), (-2147483648, 2147483647), (-2147483648, 2147483647), ((-1), 12060), ((-2147483648), 2147483647), (-2147483648, 2147483647), (-2147483648, 2147483647), ((-2147483648), 2147483647), (-2147483648, 2147483647), (-2147483648, 2147483647), (-2147483648, 2147483647), (-2147483648, 2147483647)]
def rIm (f : Nat) : Int × Int := if f < 384 then (-2147483648, 2147483647) else (rIml[f - 384]?).getD (-2147483648, 2147483647)
def rAml : List (Int × Int) := [((-2147483648), 2147483647), ((-2147483648), 2147483647), ((-2147483648), 2147483647), (0, 255), (-2147483648, 2147483647), (-2147483648, 2147483647), (-2147483648, 2147483647), (-2147483648, 2147483647), (-2147483648, 2147483647), (-2147483648, 2147483647), (-2147483648, 2147483647), (-2147483648, 2147483647), (-2147483648, 2147483647), (-2147483648, 2147483647), (-2147483648, 2147483647), (-2147483648, 2147483647), (0, 40), (-2147483648, 2147483647), (-2147483648, 2147483647), (-2147483648, 2147483647), (-2147483648, 2147483647), (0, 1), (-2147483648, 2147483647), (-2147483648, 2147483647), ((-2147483648), 2147483647), ((-2147483648), 2147483647), (-2147483648, 2147483647), (0, 39), (0, 1), ((-2147483648), 2147483647), (0, 4)]
def rAm (f : Nat) : Int × Int := if f < 384 then (-2147483648, 2147483647) else (rAml[f - 384]?).getD (-2147483648, 2147483647)
abbrev cfm : List Nat := [391, 388, 401, 402, 398, 393, 396, 392, 397, 389, 390, 407]
def rztl : List (Nat × Int × Int) := [(0, 0, 600), (1, 0, 5), (2, 0, 40), (3, 0, 200), (4, 0, 5), (5, 0, 40), (6, 0, 10), (7, 0, 30), (10, 0, 30), (314, (-1), 39), (403, 0, 300), (600, 0, 9), (900, 0, 20), (914, 0, 4)]
def rzt (z : Nat) : Int × Int := (rztl.lookup z).getD (-2147483648, 2147483647)
theorem zn_TABLE {i c k : Nat} (e : i = 20 + 5 * c + k) (hc : c < 12) (hk : k < 5) : zn i = 100 + k := by
  subst e
  unfold zn
  repeat (first | rw [if_neg (by omega)] | rw [if_pos (by omega)])
  omega
theorem zn_LOT1 {i : Nat} (h : 80 ≤ i ∧ i < 85) : zn i = 200 := by
  unfold zn
  repeat (first | rw [if_neg (by omega)] | rw [if_pos (by omega)])
theorem zn_CELL {i c k : Nat} (e : i = 100 + 16 * c + k) (hc : c < 40) (hk : k < 16) : zn i = 300 + k := by
  subst e
  unfold zn
  repeat (first | rw [if_neg (by omega)] | rw [if_pos (by omega)])
  omega
theorem zn_PERSON {i c k : Nat} (e : i = 740 + 12 * c + k) (hc : c < 40) (hk : k < 12) : zn i = 400 + k := by
  subst e
  unfold zn
  repeat (first | rw [if_neg (by omega)] | rw [if_pos (by omega)])
  omega
theorem zn_LEVEL {i c k : Nat} (e : i = 1220 + 5 * c + k) (hc : c < 200) (hk : k < 5) : zn i = 500 + k := by
  subst e
  unfold zn
  repeat (first | rw [if_neg (by omega)] | rw [if_pos (by omega)])
  omega
theorem zn_FORCE {i c k : Nat} (e : i = 2220 + 4 * c + k) (hc : c < 30) (hk : k < 4) : zn i = 600 + k := by
  subst e
  unfold zn
  repeat (first | rw [if_neg (by omega)] | rw [if_pos (by omega)])
  omega
theorem zn_GRAVE {i c k : Nat} (e : i = 2400 + 4 * c + k) (hc : c < 30) (hk : k < 4) : zn i = 700 + k := by
  subst e
  unfold zn
  repeat (first | rw [if_neg (by omega)] | rw [if_pos (by omega)])
  omega
theorem zn_ROCKS {i c k : Nat} (e : i = 2520 + 2 * c + k) (hc : c < 600) (hk : k < 2) : zn i = 800 + k := by
  subst e
  unfold zn
  repeat (first | rw [if_neg (by omega)] | rw [if_pos (by omega)])
  omega
theorem zn_t0 {i t : Nat} (e : i = 3720 + 900 * t) (ht : t < 10) : zn i = 900 := by
  subst e
  unfold zn
  repeat (first | rw [if_neg (by omega)] | rw [if_pos (by omega)])
theorem zn_tc {i t c k : Nat} (e : i = 3721 + 900 * t + 12 * c + k) (ht : t < 10) (hc : c < 20) (hk : k < 12) : zn i = 910 + k := by
  subst e
  unfold zn
  repeat (first | rw [if_neg (by omega)] | rw [if_pos (by omega)])
  omega
theorem zn_tk {i t c k : Nat} (e : i = 3970 + 900 * t + 2 * c + k) (ht : t < 10) (hc : c < 325) (hk : k < 2) : zn i = 930 + k := by
  subst e
  unfold zn
  repeat (first | rw [if_neg (by omega)] | rw [if_pos (by omega)])
  omega
/-- what a clause's code does with the values and the truths: how many there are, and whether there were enough -/
def stp (o : Int32) (s : Int × Int × Bool) : Int × Int × Bool :=
  if o.toInt ≤ 1 then (s.1 + 1, s.2.1, s.2.2)
  else if o.toInt = 2 then (s.1, s.2.1, s.2.2 && decide (1 ≤ s.1))
  else if o.toInt < 10 then (s.1 - 1, s.2.1, s.2.2 && decide (2 ≤ s.1))
  else if o.toInt < 20 then (s.1 - 2, s.2.1 + 1, s.2.2 && decide (2 ≤ s.1))
  else if o.toInt = 20 then (s.1, s.2.1, s.2.2 && decide (1 ≤ s.2.1))
  else (s.1, s.2.1 - 1, s.2.2 && decide (2 ≤ s.2.1))
def rnn (f : Nat → Int32) (b : Nat) : Nat → Int × Int × Bool
  | 0 => (0, 0, true)
  | k + 1 => stp (f (b + 2 * k)) (rnn f b k)
theorem rnn_cg {f g : Nat → Int32} {b : Nat} : ∀ k : Nat, (∀ j, j < k → g (b + 2 * j) = f (b + 2 * j)) → rnn g b k = rnn f b k := by
  intro k
  induction k with
  | zero => intro _; rfl
  | succ k ih =>
    intro h
    show stp _ _ = stp _ _
    rw [h k (Nat.lt_succ_self _), ih (fun j hj => h j (Nat.lt_succ_of_lt hj))]
theorem stp_ok {o : Int32} {s : Int × Int × Bool} (h : (stp o s).2.2 = true) : s.2.2 = true := by
  unfold stp at h
  repeat' split at h
  all_goals (first | exact h | (simp only [Bool.and_eq_true] at h; exact h.1))
theorem rnn_ok {f : Nat → Int32} {b : Nat} : ∀ (k j : Nat), j ≤ k → (rnn f b k).2.2 = true → (rnn f b j).2.2 = true := by
  intro k
  induction k with
  | zero => intro j hj h; have : j = 0 := by omega
            subst this; exact h
  | succ k ih =>
    intro j hj h
    by_cases e : j = k + 1
    · subst e; exact h
    · exact ih j (by omega) (stp_ok h)
def TXT (f : Nat → Int32) : Prop := ∀ t : Nat, (t : Int) < (f 6).toInt → ∀ c : Nat, (c : Int) < (f (3720 + 900 * t)).toInt → 1 ≤ (f (3721 + 900 * t + 12 * c)).toInt → (f (3721 + 900 * t + 12 * c)).toInt ≤ 4 → 0 ≤ (f (3721 + 900 * t + 12 * c + 2)).toInt ∧ (f (3721 + 900 * t + 12 * c + 2)).toInt ≤ (f (3721 + 900 * t + 12 * c + 3)).toInt ∧ (f (3721 + 900 * t + 12 * c + 3)).toInt ≤ 300 ∧ (rnn f (3970 + 900 * t + 2 * (f (3721 + 900 * t + 12 * c + 2)).toNatClampNeg) ((f (3721 + 900 * t + 12 * c + 3)).toNatClampNeg - (f (3721 + 900 * t + 12 * c + 2)).toNatClampNeg)).2.2 = true
def FRC (f : Nat → Int32) : Prop := ∀ g : Nat, (g : Int) < (f 7).toInt → (f (2220 + 4 * g)).toInt < (f 6).toInt
def GA (f : Nat → Int32) : Prop := ((∀ i, rg (f i) (rzt (zn i)).1 (rzt (zn i)).2) ∧ ∀ i, zn i = 403 → (f i).toInt < 5 ∨ 100 ≤ (f i).toInt) ∧ TXT f ∧ FRC f
/-- the zones that the texts and the forces look at -/
def zsp (k : Nat) : Prop := k = 6 ∨ k = 7 ∨ k = 600 ∨ (900 ≤ k ∧ k < 999)
theorem GA_ne {f : Nat → Int32} {i j k : Nat} {x : Int32} (e : zn i = k) (hj : zn j ≠ k) : upd f i x j = f j := by
  unfold upd
  rw [if_neg (fun q => hj (by rw [q, e]))]
theorem GA_r {f : Nat → Int32} (h : GA f) {i k : Nat} {lo hi : Int} (e : zn i = k) (e2 : rzt k = (lo, hi)) : rg (f i) lo hi := by
  have h1 := h.1.1 i
  rw [e, e2] at h1
  exact h1
theorem zn_6 : zn 6 = 6 := by decide
theorem zn_7 : zn 7 = 7 := by decide
theorem GA_sp {f g : Nat → Int32} (h : GA f) (hg : ∀ j, zsp (zn j) → g j = f j) : TXT g ∧ FRC g := by
  have h6 : g 6 = f 6 := hg 6 (Or.inl zn_6)
  have h7 : g 7 = f 7 := hg 7 (Or.inr (Or.inl zn_7))
  have r6 := GA_r h zn_6 (lo := 0) (hi := 10) rfl
  have r7 := GA_r h zn_7 (lo := 0) (hi := 30) rfl
  obtain ⟨r6a, r6b⟩ := r6
  obtain ⟨r7a, r7b⟩ := r7
  refine ⟨fun t ht c hc h1 h2 => ?_, fun q hq => ?_⟩
  · rw [h6] at ht
    have ht10 : t < 10 := by omega
    have e0 : zn (3720 + 900 * t) = 900 := zn_t0 rfl ht10
    have g0 : g (3720 + 900 * t) = f (3720 + 900 * t) := hg _ (by rw [e0]; exact Or.inr (Or.inr (Or.inr (by decide))))
    rw [g0] at hc
    have r0 := GA_r h e0 (lo := 0) (hi := 20) rfl
    obtain ⟨r0a, r0b⟩ := r0
    have hc20 : c < 20 := by omega
    have gk : ∀ k, k < 12 → g (3721 + 900 * t + 12 * c + k) = f (3721 + 900 * t + 12 * c + k) := fun k hk => hg _ (by rw [zn_tc rfl ht10 hc20 hk]; exact Or.inr (Or.inr (Or.inr ⟨by omega, by omega⟩)))
    have gk0 : g (3721 + 900 * t + 12 * c) = f (3721 + 900 * t + 12 * c) := gk 0 (by decide)
    rw [gk0] at h1 h2
    obtain ⟨w1, w2, w3, w4⟩ := h.2.1 t ht c hc h1 h2
    rw [gk 2 (by decide), gk 3 (by decide)]
    refine ⟨w1, w2, w3, ?_⟩
    rw [rnn_cg _ (fun j hj => ?_)]
    · exact w4
    · refine hg _ ?_
      have z1 := clampE (f (3721 + 900 * t + 12 * c + 2))
      have z2 := clampE (f (3721 + 900 * t + 12 * c + 3))
      have ez : zn (3970 + 900 * t + 2 * (f (3721 + 900 * t + 12 * c + 2)).toNatClampNeg + 2 * j) = 930 + 0 := zn_tk (c := (f (3721 + 900 * t + 12 * c + 2)).toNatClampNeg + j) (by omega) ht10 (by omega) (by decide)
      rw [ez]
      exact Or.inr (Or.inr (Or.inr (by decide)))
  · rw [h7] at hq
    have hq30 : q < 30 := by omega
    have ef : zn (2220 + 4 * q) = 600 := zn_FORCE (k := 0) rfl hq30 (by decide)
    rw [hg _ (by rw [ef]; exact Or.inr (Or.inr (Or.inl rfl))), h6]
    exact h.2.2 q hq
theorem GA_w {f : Nat → Int32} (h : GA f) {i k : Nat} {x : Int32} {lo hi : Int} (e : zn i = k) (e2 : rzt k = (lo, hi)) (hx : rg x lo hi) (hk : ¬ zsp k) (hh : k = 403 → x.toInt < 5 ∨ 100 ≤ x.toInt) : GA (upd f i x) := by
  refine ⟨⟨fun j => ?_, fun j hj => ?_⟩, GA_sp h (fun j hj => GA_ne e (fun q => hk (q ▸ hj)))⟩
  · unfold upd
    split
    · next q => rw [q, e, e2]; exact hx
    · exact h.1.1 j
  · unfold upd
    split
    · next q => rw [q, e] at hj; exact hh hj
    · exact h.1.2 j hj
theorem zsp_no {k : Nat} (h : (k ≠ 6 ∧ k ≠ 7 ∧ k ≠ 600) ∧ (k < 900 ∨ 999 ≤ k)) : ¬ zsp k := by
  unfold zsp
  omega
def vN (f : Nat → Int32) (b : Nat) (fr i : Int) : Int := (rnn f b (i - fr).toNat).1
def tN (f : Nat → Int32) (b : Nat) (fr i : Int) : Int := (rnn f b (i - fr).toNat).2.1
def oN (f : Nat → Int32) (b : Nat) (fr i : Int) : Prop := (rnn f b (i - fr).toNat).2.2 = true
theorem rnn_s {f : Nat → Int32} {b : Nat} {fr i : Int} (h : fr ≤ i) : rnn f b (i + 1 - fr).toNat = stp (f (b + 2 * (i - fr).toNat)) (rnn f b (i - fr).toNat) := by
  have e : (i + 1 - fr).toNat = (i - fr).toNat + 1 := by omega
  rw [e]
  rfl
theorem rnn_b {f : Nat → Int32} {b : Nat} : ∀ k : Nat, (rnn f b k).2.2 = true → (0 ≤ (rnn f b k).1 ∧ (rnn f b k).1 ≤ k) ∧ 0 ≤ (rnn f b k).2.1 ∧ (rnn f b k).2.1 ≤ k := by
  intro k
  induction k with
  | zero => intro _; exact ⟨⟨Int.le_refl _, Int.le_refl _⟩, Int.le_refl _, Int.le_refl _⟩
  | succ k ih =>
    intro h
    have h0 := ih (stp_ok h)
    have h2 : (stp (f (b + 2 * k)) (rnn f b k)).2.2 = true := h
    show (0 ≤ (stp (f (b + 2 * k)) (rnn f b k)).1 ∧ (stp (f (b + 2 * k)) (rnn f b k)).1 ≤ ((k + 1 : Nat) : Int)) ∧ 0 ≤ (stp (f (b + 2 * k)) (rnn f b k)).2.1 ∧ (stp (f (b + 2 * k)) (rnn f b k)).2.1 ≤ ((k + 1 : Nat) : Int)
    generalize rnn f b k = s at h0 h2
    unfold stp at h2 ⊢
    repeat' split at h2
    all_goals (repeat (first | rw [if_pos (by assumption)] | rw [if_neg (by assumption)]))
    all_goals (try simp only [Bool.and_eq_true, decide_eq_true_eq] at h2)
    all_goals (dsimp only; omega)
theorem oN_b {f : Nat → Int32} {b : Nat} {fr i : Int} (h : oN f b fr i) (hi : fr ≤ i) : (0 ≤ vN f b fr i ∧ vN f b fr i ≤ i - fr) ∧ 0 ≤ tN f b fr i ∧ tN f b fr i ≤ i - fr := by
  have h1 := rnn_b _ h
  unfold vN tN
  omega
theorem oN_le {f : Nat → Int32} {b : Nat} {fr i j : Int} (h : oN f b fr j) (hi : i ≤ j) : oN f b fr i := rnn_ok _ _ (by omega) h
section STP
variable {f : Nat → Int32} {b : Nat} {fr i : Int} {o : Int32}
theorem is_1 (h : fr ≤ i) (e : f (b + 2 * (i - fr).toNat) = o) (ho : o.toInt ≤ 1) : vN f b fr (i + 1) = vN f b fr i + 1 ∧ tN f b fr (i + 1) = tN f b fr i := by
  unfold vN tN
  rw [rnn_s h, e]
  unfold stp
  rw [if_pos ho]
  exact ⟨rfl, rfl⟩
theorem is_2 (h : fr ≤ i) (e : f (b + 2 * (i - fr).toNat) = o) (ho : o.toInt = 2) (hk : oN f b fr (i + 1)) : (vN f b fr (i + 1) = vN f b fr i ∧ tN f b fr (i + 1) = tN f b fr i) ∧ 1 ≤ vN f b fr i := by
  unfold oN at hk
  unfold vN tN
  rw [rnn_s h, e] at hk ⊢
  unfold stp at hk ⊢
  rw [if_neg (by omega), if_pos ho] at hk ⊢
  simp only [Bool.and_eq_true, decide_eq_true_eq] at hk
  exact ⟨⟨rfl, rfl⟩, hk.2⟩
theorem is_3 (h : fr ≤ i) (e : f (b + 2 * (i - fr).toNat) = o) (ho : 2 < o.toInt ∧ o.toInt < 10) (hk : oN f b fr (i + 1)) : (vN f b fr (i + 1) = vN f b fr i - 1 ∧ tN f b fr (i + 1) = tN f b fr i) ∧ 2 ≤ vN f b fr i := by
  unfold oN at hk
  unfold vN tN
  rw [rnn_s h, e] at hk ⊢
  unfold stp at hk ⊢
  rw [if_neg (by omega), if_neg (by omega), if_pos ho.2] at hk ⊢
  simp only [Bool.and_eq_true, decide_eq_true_eq] at hk
  exact ⟨⟨rfl, rfl⟩, hk.2⟩
theorem is_4 (h : fr ≤ i) (e : f (b + 2 * (i - fr).toNat) = o) (ho : 10 ≤ o.toInt ∧ o.toInt < 20) (hk : oN f b fr (i + 1)) : (vN f b fr (i + 1) = vN f b fr i - 2 ∧ tN f b fr (i + 1) = tN f b fr i + 1) ∧ 2 ≤ vN f b fr i := by
  unfold oN at hk
  unfold vN tN
  rw [rnn_s h, e] at hk ⊢
  unfold stp at hk ⊢
  rw [if_neg (by omega), if_neg (by omega), if_neg (by omega), if_pos ho.2] at hk ⊢
  simp only [Bool.and_eq_true, decide_eq_true_eq] at hk
  exact ⟨⟨rfl, rfl⟩, hk.2⟩
theorem is_5 (h : fr ≤ i) (e : f (b + 2 * (i - fr).toNat) = o) (ho : o.toInt = 20) (hk : oN f b fr (i + 1)) : (vN f b fr (i + 1) = vN f b fr i ∧ tN f b fr (i + 1) = tN f b fr i) ∧ 1 ≤ tN f b fr i := by
  unfold oN at hk
  unfold vN tN
  rw [rnn_s h, e] at hk ⊢
  unfold stp at hk ⊢
  rw [if_neg (by omega), if_neg (by omega), if_neg (by omega), if_neg (by omega), if_pos ho] at hk ⊢
  simp only [Bool.and_eq_true, decide_eq_true_eq] at hk
  exact ⟨⟨rfl, rfl⟩, hk.2⟩
theorem is_6 (h : fr ≤ i) (e : f (b + 2 * (i - fr).toNat) = o) (ho : 20 < o.toInt) (hk : oN f b fr (i + 1)) : (vN f b fr (i + 1) = vN f b fr i ∧ tN f b fr (i + 1) = tN f b fr i - 1) ∧ 2 ≤ tN f b fr i := by
  unfold oN at hk
  unfold vN tN
  rw [rnn_s h, e] at hk ⊢
  unfold stp at hk ⊢
  rw [if_neg (by omega), if_neg (by omega), if_neg (by omega), if_neg (by omega), if_neg (by omega)] at hk ⊢
  simp only [Bool.and_eq_true, decide_eq_true_eq] at hk
  exact ⟨⟨rfl, rfl⟩, hk.2⟩
end STP
abbrev zt (t : Nat) : Bool := t == 384 || t == 385 || t == 386
abbrev ztl : List Nat := [0, 1, 2, 3, 4, 5, 6, 7, 10, 13, 14, 15, 500, 501, 502, 503, 504, 100, 101, 102, 103, 104, 300, 301, 304, 305, 306, 308, 403, 700, 701, 702, 600, 601, 602, 603, 900, 910, 911, 912, 913, 914, 915, 916, 917, 918, 919, 920, 921, 930, 931, 8, 11, 12, 16, 17, 18, 200, 302, 303, 311, 312, 313, 314, 400, 401, 402, 404, 407, 408, 800, 801]
abbrev frl : List (Nat × Nat) := [(385, 2000), (386, 2001), (414, 2002), (387, 2003)]
/-- where the keys are: nowhere, or a clause of a text -/
def kv (x : Int32) : Prop := x.toInt = -1 ∨ x.toInt = 0 ∨ ∃ t c : Nat, t < 10 ∧ c < 20 ∧ x.toInt = 3721 + 900 * t + 12 * c
def GT (tg : Nat → Nat) (I ri : Nat → Nat → Int32) : Prop := (∀ f a, rg (I f a) (rIm f).1 (rIm f).2) ∧ (∀ q j, rg (ri q j) (rAm (tg q)).1 (rAm (tg q)).2) ∧ (∀ q, zt (tg q) = true → GA (ri q)) ∧ ∀ a, kv (I 406 a)
def GM (X : List Nat) (tg : Nat → Nat) (_ : pq_S) (I0 r0 I ri : Nat → Nat → Int32) (_ : Nat → Nat → Option Nat) : Prop := GT tg I ri ∧ (∀ f, f ∈ cfm → f ∉ X → I f = I0 f) ∧ (∀ q, tg q = 384 → ∀ j, zn j ∈ ztl → 1000 + zn j ∉ X → ri q j = r0 q j) ∧ ∀ t c, (t, c) ∈ frl → c ∉ X → ∀ q, tg q = t → ri q = r0 q
section GMS
variable {X Y : List Nat} {tg : Nat → Nat} {σ : pq_S} {I0 r0 I I1 ri r1 : Nat → Nat → Int32} {rq q1 : Nat → Nat → Option Nat}
theorem GM.rI (h : GM X tg σ I0 r0 I ri rq) (f : Nat) {lo hi : Int} {a : Nat} (e : rIm f = (lo, hi)) : rg (I f a) lo hi := by
  have h1 := h.1.1 f a
  rw [e] at h1
  exact h1
theorem GM.rR (h : GM X tg σ I0 r0 I ri rq) {q j t : Nat} {lo hi : Int} (ht : tg q = t) (e : rAm t = (lo, hi)) : rg (ri q j) lo hi := by
  have h1 := h.1.2.1 q j
  rw [ht, e] at h1
  exact h1
theorem GT.frc (h : GT tg I ri) {q : Nat} (hz : zt (tg q) = true) (g : Nat) (hg : (g : Int) < (ri q 7).toInt) : (ri q (2220 + 4 * g)).toInt < (ri q 6).toInt := (h.2.2.1 q hz).2.2 g hg
theorem GM.z0 (h : GT tg I ri) {q i k : Nat} {lo hi : Int} (hz : zt (tg q) = true) (e : zn i = k) (e2 : rzt k = (lo, hi)) : rg (ri q i) lo hi := by
  exact GA_r (h.2.2.1 q hz) e e2
theorem GM.z (h : GM X tg σ I0 r0 I ri rq) {q i k : Nat} {lo hi : Int} (hz : zt (tg q) = true) (e : zn i = k) (e2 : rzt k = (lo, hi)) : rg (ri q i) lo hi := by
  exact GA_r (h.1.2.2.1 q hz) e e2
theorem GM.hole (h : GM X tg σ I0 r0 I ri rq) {q i : Nat} (hz : zt (tg q) = true) (e : zn i = 403) : (ri q i).toInt < 5 ∨ 100 ≤ (ri q i).toInt := (h.1.2.2.1 q hz).1.2 i e
theorem GM.wI (h : GM X tg σ I0 r0 I ri rq) (f : Nat) {lo hi : Int} {a : Nat} {v : Int32} (e : rIm f = (lo, hi)) (e1 : I1 = pq_u I f a v) (hv : rg v lo hi) (hf : (f ∉ cfm ∨ f ∈ X) ∧ f ≠ 406) : GM X tg σ I0 r0 I1 ri rq := by
  subst e1
  refine ⟨⟨fun g b => ?_, h.1.2.1, h.1.2.2.1, fun b => by rw [pq_uf _ _ _ (Ne.symm hf.2)]; exact h.1.2.2.2 b⟩, fun g hg hx => ?_, h.2.2⟩
  · by_cases hgf : g = f
    · subst hgf
      by_cases hb : b = a
      · subst hb
        rw [pq_us, e]
        exact hv
      · rw [pq_ua _ _ _ _ hb]
        exact h.1.1 g b
    · rw [pq_uf _ _ _ hgf]
      exact h.1.1 g b
  · have hgf : g ≠ f := fun q => by
      subst q
      rcases hf.1 with z | z
      · exact z hg
      · exact hx z
    rw [pq_uf _ _ _ hgf]
    exact h.2.1 g hg hx
theorem GM.wK (h : GM X tg σ I0 r0 I ri rq) {lo hi : Int} {a : Nat} {v : Int32} (e : rIm 406 = (lo, hi)) (e1 : I1 = pq_u I 406 a v) (hv : rg v lo hi) (hk : kv v) (hf : 406 ∉ cfm) : GM X tg σ I0 r0 I1 ri rq := by
  subst e1
  refine ⟨⟨fun g b => ?_, h.1.2.1, h.1.2.2.1, fun b => ?_⟩, fun g hg hx => ?_, h.2.2⟩
  · by_cases hgf : g = 406
    · subst hgf
      by_cases hb : b = a
      · subst hb
        rw [pq_us, e]
        exact hv
      · rw [pq_ua _ _ _ _ hb]
        exact h.1.1 _ b
    · rw [pq_uf _ _ _ hgf]
      exact h.1.1 g b
  · by_cases hb : b = a
    · subst hb
      rw [pq_us]
      exact hk
    · rw [pq_ua _ _ _ _ hb]
      exact h.1.2.2.2 b
  · rw [pq_uf _ _ _ (fun q => by rw [q] at hg; exact hf hg)]
    exact h.2.1 g hg hx
theorem GT.kv4 (h : GT tg I ri) {q a : Nat} {v : Int32} (hz : zt (tg q) = true) (e : v.toInt = (I 406 a).toInt + 4) : rg (ri q v.toNatClampNeg) 0 200 := by
  have ce := clampE v
  rcases h.2.2.2 a with h1 | h1 | ⟨t, c, ht, hc, h1⟩
  · rw [show v.toNatClampNeg = 3 from by omega]
    exact GA_r (h.2.2.1 q hz) (k := 3) (by decide) rfl
  · rw [show v.toNatClampNeg = 4 from by omega]
    exact rg_w (GA_r (h.2.2.1 q hz) (k := 4) (lo := 0) (hi := 5) (by decide) rfl) (by decide)
  · exact rg_w (GA_r (h.2.2.1 q hz) (k := 910 + 4) (lo := 0) (hi := 4) (zn_tc (t := t) (c := c) (k := 4) (by omega) ht hc (by decide)) rfl) (by decide)
theorem GM.wR (h : GM X tg σ I0 r0 I ri rq) (_ : SH σ tg) {q t : Nat} {i v : Int32} {lo hi : Int} (ht : tg q = t) (e : rAm t = (lo, hi)) (e1 : r1 = va_up ri q (upd (ri q) i.toNatClampNeg v)) (hv : rg v lo hi) (hn : zt t = false ∧ ∀ p ∈ frl, p.1 = t → p.2 ∈ X) : GM X tg σ I0 r0 I r1 rq := by
  subst e1
  have hne : ∀ b, zt (tg b) = true → b ≠ q := fun b hb e => by rw [e, ht, hn.1] at hb; cases hb
  refine ⟨⟨h.1.1, fun p j => ?_, fun b hb => ?_, h.1.2.2.2⟩, h.2.1, fun b hb j hj hx => ?_, fun t2 c hc hx b hb => ?_⟩
  · by_cases hp : p = q
    · subst hp
      rw [va_up_self]
      unfold upd
      split
      · rw [ht, e]
        exact hv
      · exact h.1.2.1 p j
    · rw [va_up_ne _ _ hp]
      exact h.1.2.1 p j
  · rw [va_up_ne _ _ (hne b hb)]
    exact h.1.2.2.1 b hb
  · rw [va_up_ne _ _ (hne b (by rw [hb]; decide))]
    exact h.2.2.1 b hb j hj hx
  · have hp : b ≠ q := fun z => by
      rw [z, ht] at hb
      exact hx (hn.2 (t2, c) hc hb.symm)
    rw [va_up_ne _ _ hp]
    exact h.2.2.2 t2 c hc hx b hb
theorem GM.wz0 (h : GM X tg σ I0 r0 I ri rq) {q t k : Nat} {v x : Int32} {lo hi : Int} (ht : tg q = t) (hz : zt t = true) (hr : rAm t = (-2147483648, 2147483647)) (e1 : r1 = va_up ri q (upd (ri q) v.toNatClampNeg x)) (e : zn v.toNatClampNeg = k) (e2 : rzt k = (lo, hi)) (hx : rg x lo hi) (hX : (k ∉ ztl ∨ 1000 + k ∈ X) ∧ ∀ p ∈ frl, p.1 = t → p.2 ∈ X) (hG : GA (ri q) → GA (upd (ri q) v.toNatClampNeg x)) (_ : k = 403 → x.toInt < 5 ∨ 100 ≤ x.toInt) : GM X tg σ I0 r0 I r1 rq := by
  subst e1
  refine ⟨⟨h.1.1, fun p j => ?_, fun b hb => ?_, h.1.2.2.2⟩, h.2.1, fun b hb j hj hx2 => ?_, fun t2 c hc hx2 b hb => ?_⟩
  · by_cases hp : p = q
    · subst hp
      rw [ht, hr]
      exact rg_full _
    · rw [va_up_ne _ _ hp]
      exact h.1.2.1 p j
  · by_cases hp : b = q
    · subst hp
      rw [va_up_self]
      exact hG (h.1.2.2.1 b hb)
    · rw [va_up_ne _ _ hp]
      exact h.1.2.2.1 b hb
  · by_cases hp : b = q
    · subst hp
      rw [va_up_self]
      unfold upd
      split
      · next q =>
        rw [q, e] at hj hx2
        rcases hX.1 with z | z
        · exact absurd hj z
        · exact absurd z hx2
      · exact h.2.2.1 b hb j hj hx2
    · rw [va_up_ne _ _ hp]
      exact h.2.2.1 b hb j hj hx2
  · have hp : b ≠ q := fun z => by
      rw [z, ht] at hb
      exact hx2 (hX.2 (t2, c) hc hb.symm)
    rw [va_up_ne _ _ hp]
    exact h.2.2.2 t2 c hc hx2 b hb
theorem GM.wz (h : GM X tg σ I0 r0 I ri rq) {q t k : Nat} {v x : Int32} {lo hi : Int} (ht : tg q = t) (hz : zt t = true ∧ rAm t = (-2147483648, 2147483647)) (e1 : r1 = va_up ri q (upd (ri q) v.toNatClampNeg x)) (e : zn v.toNatClampNeg = k) (e2 : rzt k = (lo, hi)) (hx : rg x lo hi) (hX : ((k ∉ ztl ∨ 1000 + k ∈ X) ∧ ∀ p ∈ frl, p.1 = t → p.2 ∈ X) ∧ k ≠ 403 ∧ (k ≠ 6 ∧ k ≠ 7 ∧ k ≠ 600) ∧ (k < 900 ∨ 999 ≤ k)) : GM X tg σ I0 r0 I r1 rq := GM.wz0 h ht hz.1 hz.2 e1 e e2 hx hX.1 (fun hG => GA_w hG e e2 hx (zsp_no hX.2.2) (fun q => absurd q hX.2.1)) (fun q => absurd q hX.2.1)
theorem GM.wp (h : GM X tg σ I0 r0 I ri rq) {q t : Nat} {v x : Int32} (ht : tg q = t) (hz : zt t = true ∧ rAm t = (-2147483648, 2147483647)) (e1 : r1 = va_up ri q (upd (ri q) v.toNatClampNeg x)) (e : zn v.toNatClampNeg = 403) (hx : rg x 0 300) (hh : x.toInt < 5 ∨ 100 ≤ x.toInt) (hX : 1403 ∈ X ∧ ∀ p ∈ frl, p.1 = t → p.2 ∈ X) : GM X tg σ I0 r0 I r1 rq := GM.wz0 h ht hz.1 hz.2 e1 e (lo := 0) (hi := 300) rfl hx ⟨Or.inr hX.1, hX.2⟩ (fun hG => GA_w hG e (lo := 0) (hi := 300) rfl hx (zsp_no (by decide)) (fun _ => hh)) (fun _ => hh)
theorem GM.tr (h : GM X tg σ I0 r0 I ri rq) (h1 : GM Y tg σ I ri I1 r1 q1) (hs : ∀ f ∈ Y, f ∈ X) : GM X tg σ I0 r0 I1 r1 q1 := ⟨h1.1, fun f hf hx => (h1.2.1 f hf (fun q => hx (hs f q))).trans (h.2.1 f hf hx), fun q hq j hj hx => (h1.2.2.1 q hq j hj (fun z => hx (hs _ z))).trans (h.2.2.1 q hq j hj hx), fun t c hc hx q hq => (h1.2.2.2 t c hc (fun z => hx (hs _ z)) q hq).trans (h.2.2.2 t c hc hx q hq)⟩
theorem GM.cp (h : GM X tg σ I0 r0 I ri rq) {p q s t : Nat} (hp : tg p = s) (hq : tg q = t) (hz : zt s = true ∧ zt t = true ∧ rAm t = (-2147483648, 2147483647)) (e1 : ∀ j, j < 12720 → r1 q j = ri p j) (e2 : ∀ c, c ≠ q → r1 c = ri c) (hX : ((∀ z ∈ ztl, 1000 + z ∈ X) ∨ t ≠ 384) ∧ ∀ p ∈ frl, p.1 = t → p.2 ∈ X) : GM X tg σ I0 r0 I r1 rq := by
  refine ⟨⟨h.1.1, fun b j => ?_, fun b hb => ?_, h.1.2.2.2⟩, h.2.1, fun b hb j hj hx2 => ?_, fun t2 c hc hx2 b hb => ?_⟩
  · by_cases hbq : b = q
    · subst hbq
      rw [hq, hz.2.2]
      exact rg_full _
    · rw [e2 b hbq]
      exact h.1.2.1 b j
  · by_cases hbq : b = q
    · subst hbq
      have hG := h.1.2.2.1 p (by rw [hp]; exact hz.1)
      have big : ∀ i, ¬ i < 12720 → zn i = 999 := fun i hi => by
        unfold zn
        repeat (first | rw [if_neg (by omega)] | rw [if_pos (by omega)])
      refine ⟨⟨fun i => ?_, fun i hi => ?_⟩, GA_sp hG (fun j hj => ?_)⟩
      · by_cases hi : i < 12720
        · rw [e1 i hi]
          exact hG.1.1 i
        · rw [big i hi]
          exact rg_full _
      · by_cases hi2 : i < 12720
        · rw [e1 i hi2]
          exact hG.1.2 i hi
        · rw [big i hi2] at hi
          cases hi
      · by_cases hi3 : j < 12720
        · exact e1 j hi3
        · rw [big j hi3] at hj
          unfold zsp at hj
          omega
    · rw [e2 b hbq]
      exact h.1.2.2.1 b hb
  · by_cases hbq : b = q
    · subst hbq
      rcases hX.1 with z | z
      · exact absurd (z _ hj) hx2
      · exact absurd (hq.symm.trans hb) z
    · rw [e2 b hbq]
      exact h.2.2.1 b hb j hj hx2
  · have hbq : b ≠ q := fun z => by
      rw [z, hq] at hb
      exact hx2 (hX.2 (t2, c) hc hb.symm)
    rw [e2 b hbq]
    exact h.2.2.2 t2 c hc hx2 b hb
end GMS
theorem cz_eq {r r1 : Nat → Nat → Int32} {q j : Nat} {v x : Int32} (e1 : r1 = va_up r q (upd (r q) v.toNatClampNeg x)) (hj : v.toNatClampNeg = j := by rfl) : r1 q j = x := by
  subst e1
  rw [va_up_self]
  unfold upd
  rw [if_pos hj.symm]
theorem cz_ne {r r1 : Nat → Nat → Int32} {q j k : Nat} {v x z : Int32} (e1 : r1 = va_up r q (upd (r q) v.toNatClampNeg x)) (ez : zn v.toNatClampNeg = k) (hj : j < 20) (hk : k ≠ j) (h : r q j = z) : r1 q j = z := by
  subst e1
  rw [va_up_self]
  unfold upd
  rw [if_neg (fun e => ?_)]
  · exact h
  · rw [← e] at ez
    have ej : zn j = j := by unfold zn; rw [if_pos hj]
    exact hk (ez.symm.trans ej)
section PQZ
variable {p : Program} {l : Launch} {e : Env} {R : Room} {s : State} {m : MethodId} {args : Array Value} {below : List Frame} {meth : Method} {c : Code} {H : Heap} {locs : List Loc} {cells slots : Nat} {Q : State → Prop}
variable {cc : ByteArray} {pc : Nat} {ls : Array Slot} {rest : List Value} {D : va_G} {A : Nat → Prop} {a : Nat} {t : pq_T} {σ : pq_S} {H0 : Heap}
variable {I : Nat → Nat → Int32} {J : Nat → Nat → Int64} {ri : Nat → Nat → Int32} {rj : Nat → Nat → Int64} {rq : Nat → Nat → Option Nat}
theorem pl_z (hx : p.tables.exec = Jvm.exec) (hb : c.code = cc) {μ : pq_M} (hK : va_K D vwCl (pq_ty t) s) (hP : va_P D vwCl (pq_P t σ μ) H) (hL : a ∈ σ.1) (hk : σ.2.1 a = 15) {n : Nat} (hn : σ.2.2.2 a = n) {i : Int32} (hin : vp_in i n) (hdg : decode cc pc = .ok (.baload, 1))
    (kk : W p l e R s m args below meth c H locs cells slots Q (F0 m (pc + 1) ls (.int (μ.2.2.1 a i.toNatClampNeg) :: rest))) : W p l e R s m args below meth c H locs cells slots Q (F0 m pc ls (.int i :: .ref a :: rest)) := by
  subst hn
  obtain ⟨q, hq⟩ := pq_in (t := t) (μ := μ) hL
  rw [pq_oZ hk] at hq
  exact va_zald hx hb hK hP q 2 hq rfl hin hdg kk
theorem nar01 {x : Int32} (h : rg x 0 1) : vp_nar .boolean x = x := by rcases bool01 h with e | e <;> subst e <;> rfl
theorem pt_z (hx : p.tables.exec = Jvm.exec) (hb : c.code = cc) (hK : va_K D vwCl (pq_ty t) s) (hP : va_P D vwCl (pq_P t σ (I, J, ri, rj, rq)) H) (hD : va_D A (pq_P t σ (I, J, ri, rj, rq))) (hS : va_S A H0 H locs) (hL : a ∈ σ.1) (hk : σ.2.1 a = 15) {n : Nat} (hn : σ.2.2.2 a = n) {i x : Int32} (hin : vp_in i n) (hz : rg x 0 1) (hdg : decode cc pc = .ok (.bastore, 1))
    (kk : ∀ (r1 : Nat → Nat → Int32) (H1 : Heap) (locs1 : List Loc), r1 = va_up ri a (upd (ri a) i.toNatClampNeg x) → va_P D vwCl (pq_P t σ (I, J, r1, rj, rq)) H1 → va_D A (pq_P t σ (I, J, r1, rj, rq)) → va_S A H0 H1 locs1 → W p l e R s m args below meth c H1 locs1 cells slots Q (F0 m (pc + 1) ls rest)) : W p l e R s m args below meth c H locs cells slots Q (F0 m pc ls (.int x :: .int i :: .ref a :: rest)) := by
  subst hn
  obtain ⟨q, hq⟩ := pq_in (t := t) (μ := (I, J, ri, rj, rq)) hL
  have hq2 := hq
  rw [pq_oZ hk] at hq2
  have he : (pq_P t σ (I, J, ri, rj, rq)).set q (a, .inl (t.2.2.1, σ.2.2.2 a, .inl (upd (ri a) i.toNatClampNeg (vp_nar .boolean x)))) = pq_P t σ (I, J, va_up ri a (upd (ri a) i.toNatClampNeg x), rj, rq) := pq_set hD hL hq (by rw [pq_oZ hk]; simp only [va_up_self, nar01 hz]) (fun b hb => pq_Ea hb)
  refine va_zast hx hb hK hP hD hS q 2 hq2 rfl hin hdg (fun H1 locs1 hP1 hD1 hS1 => ?_)
  exact kk _ H1 locs1 rfl (he ▸ hP1) (he ▸ hD1) hS1
theorem fr_w {tg : Nat → Nat} {T a : Nat} {r0 r r1 : Nat → Nat → Int32} {g : Nat → Int32} (h : ∀ q, tg q ≠ T → r q = r0 q) (e : r1 = va_up r a g) (ht : tg a = T) : ∀ q, tg q ≠ T → r1 q = r0 q := by
  intro q hq
  rw [e, va_up_ne _ _ (fun z => hq (by rw [z, ht]))]
  exact h q hq
theorem fr_t {tg : Nat → Nat} {T : Nat} {r0 r r1 : Nat → Nat → Int32} (h : ∀ q, tg q ≠ T → r q = r0 q) (h1 : ∀ q, tg q ≠ T → r1 q = r q) : ∀ q, tg q ≠ T → r1 q = r0 q := fun q hq => (h1 q hq).trans (h q hq)
/-- the orders of rings -/
def InjI (n : Int) (f : Nat → Int32) : Prop := ∀ i j : Nat, (i : Int) < n → (j : Int) < n → f i = f j → i = j
theorem sw_eq {r0 r1 r2 : Nat → Nat → Int32} {w : Nat} {i1 i2 x1 x2 : Int32} (e1 : r1 = va_up r0 w (upd (r0 w) i1.toNatClampNeg x1)) (e2 : r2 = va_up r1 w (upd (r1 w) i2.toNatClampNeg x2)) (h1 : x1 = r0 w i2.toNatClampNeg) (h2 : x2 = r0 w i1.toNatClampNeg) (i : Nat) : r2 w i = if i = i2.toNatClampNeg then r0 w i1.toNatClampNeg else if i = i1.toNatClampNeg then r0 w i2.toNatClampNeg else r0 w i := by
  subst e1 e2 h1 h2
  rw [va_up_self, va_up_self]
  unfold upd
  rfl
theorem sw_inj {r0 r1 r2 : Nat → Nat → Int32} {w : Nat} {i1 i2 x1 x2 : Int32} {n : Int} (hi : InjI n (r0 w)) (e1 : r1 = va_up r0 w (upd (r0 w) i1.toNatClampNeg x1)) (e2 : r2 = va_up r1 w (upd (r1 w) i2.toNatClampNeg x2)) (h1 : x1 = r0 w i2.toNatClampNeg) (h2 : x2 = r0 w i1.toNatClampNeg) (b1 : (i1.toNatClampNeg : Int) < n) (b2 : (i2.toNatClampNeg : Int) < n) : InjI n (r2 w) := by
  intro i j hi2 hj h
  rw [sw_eq e1 e2 h1 h2, sw_eq e1 e2 h1 h2] at h
  repeat' split at h
  all_goals (first | omega | (have q := hi _ _ (by omega) (by omega) h; omega))
def lexM (f : Nat → Int32) : Int := 625 * (f 0).toInt + 125 * (f 1).toInt + 25 * (f 2).toInt + 5 * (f 3).toInt + (f 4).toInt
theorem lex_up {f g : Nat → Int32} (hf : ∀ i, rg (f i) 0 4) (hg : ∀ i, rg (g i) 0 4) (h : ∃ k : Nat, k < 4 ∧ (∀ i, i < k → g i = f i) ∧ (f k).toInt < (g k).toInt) : lexM f < lexM g := by
  obtain ⟨k, hk, hp, hlt⟩ := h
  obtain ⟨f0, F0'⟩ := hf 0
  obtain ⟨f1, F1⟩ := hf 1
  obtain ⟨f2, F2⟩ := hf 2
  obtain ⟨f3, F3⟩ := hf 3
  obtain ⟨f4, F4⟩ := hf 4
  obtain ⟨g0, G0⟩ := hg 0
  obtain ⟨g1, G1⟩ := hg 1
  obtain ⟨g2, G2'⟩ := hg 2
  obtain ⟨g3, G3⟩ := hg 3
  obtain ⟨g4, G4⟩ := hg 4
  unfold lexM
  have hc : k = 0 ∨ k = 1 ∨ k = 2 ∨ k = 3 := by omega
  rcases hc with e | e | e | e <;> subst e
  · omega
  · have p0 := congrArg Int32.toInt (hp 0 (by decide)); omega
  · have p0 := congrArg Int32.toInt (hp 0 (by decide)); have p1 := congrArg Int32.toInt (hp 1 (by decide)); omega
  · have p0 := congrArg Int32.toInt (hp 0 (by decide)); have p1 := congrArg Int32.toInt (hp 1 (by decide)); have p2 := congrArg Int32.toInt (hp 2 (by decide)); omega
theorem lex_b {f : Nat → Int32} (hf : ∀ i, rg (f i) 0 4) : 0 ≤ lexM f ∧ lexM f ≤ 3124 := by
  obtain ⟨f0, F0'⟩ := hf 0
  obtain ⟨f1, F1⟩ := hf 1
  obtain ⟨f2, F2⟩ := hf 2
  obtain ⟨f3, F3⟩ := hf 3
  obtain ⟨f4, F4⟩ := hf 4
  unfold lexM
  omega
theorem inj_id {f : Nat → Int32} {n : Int} (h : ∀ j : Nat, (j : Int) < 5 → (f j).toInt = j) (hn : n ≤ 5) : InjI n f := by
  intro i j hi hj e
  have h1 := h i (by omega)
  have h2 := h j (by omega)
  have h3 := congrArg Int32.toInt e
  omega
theorem id_w {r r1 : Nat → Nat → Int32} {w : Nat} {i : Int32} (h : ∀ j : Nat, (j : Int) < i.toInt → (r w j).toInt = j) (e : r1 = va_up r w (upd (r w) i.toNatClampNeg i)) (h0 : 0 ≤ i.toInt) {m : Int} (hm : m = i.toInt + 1) : ∀ j : Nat, (j : Int) < m → (r1 w j).toInt = j := by
  intro j hj
  have ce := clampE i
  rw [e, va_up_self]
  unfold upd
  split
  · omega
  · exact h j (by omega)
theorem ro_ne {r r1 : Nat → Nat → Int32} {a q : Nat} {g : Nat → Int32} (e : r1 = va_up r q g) (h : a ≠ q) : r1 a = r a := by rw [e, va_up_ne _ _ h]
/-- the persons in the row are on rings -/
def rwP (a w : Nat) (r : Nat → Nat → Int32) (n : Int) : Prop := ∀ j : Nat, (j : Int) < n → rg (r a (743 + 12 * (r w j).toNatClampNeg)) 0 4
theorem rwP_f {a w : Nat} {r r1 : Nat → Nat → Int32} {n : Int} (h : rwP a w r n) (ha : r1 a = r a) (hw : r1 w = r w) : rwP a w r1 n := by
  intro j hj
  rw [ha, hw]
  exact h j hj
theorem rwV_f {a k : Nat} {r r1 : Nat → Nat → Int32} (h : rg (r a k) 0 4) (ha : r1 a = r a) : rg (r1 a k) 0 4 := by
  rw [ha]
  exact h
theorem rwP_o {a w q : Nat} {r r1 : Nat → Nat → Int32} {n : Int} {g : Nat → Int32} (h : rwP a w r n) (e : r1 = va_up r q g) (ha : a ≠ q) (hw : w ≠ q) : rwP a w r1 n := by
  intro j hj
  rw [e, va_up_ne _ _ ha, va_up_ne _ _ hw]
  exact h j hj
theorem rwV_o {a q : Nat} {r r1 : Nat → Nat → Int32} {g : Nat → Int32} {k : Nat} (h : rg (r a k) 0 4) (e : r1 = va_up r q g) (ha : a ≠ q) : rg (r1 a k) 0 4 := by
  rw [e, va_up_ne _ _ ha]
  exact h
theorem rwP_w {a w : Nat} {r r1 : Nat → Nat → Int32} {n : Int} {i x : Int32} (h : rwP a w r n) (e : r1 = va_up r w (upd (r w) i.toNatClampNeg x)) (ha : a ≠ w) (hx : rg (r a (743 + 12 * x.toNatClampNeg)) 0 4) : rwP a w r1 n := by
  intro j hj
  rw [e, va_up_ne _ _ ha, va_up_self]
  unfold upd
  split
  · exact hx
  · exact h j hj
theorem rwP_at {a w : Nat} {r r1 : Nat → Nat → Int32} {k : Nat} {i x : Int32} (h : i.toNatClampNeg = k ∨ rg (r a (743 + 12 * (r w k).toNatClampNeg)) 0 4) (e : r1 = va_up r w (upd (r w) i.toNatClampNeg x)) (ha : a ≠ w) (hx : rg (r a (743 + 12 * x.toNatClampNeg)) 0 4) : rg (r1 a (743 + 12 * (r1 w k).toNatClampNeg)) 0 4 := by
  rw [e, va_up_ne _ _ ha, va_up_self]
  unfold upd
  split
  · exact hx
  · next q => exact h.elim (fun z => absurd z.symm q) id
theorem rwP_s {a w : Nat} {r : Nat → Nat → Int32} {n m : Int} (h : rwP a w r n) (h0 : 0 ≤ n) (h1 : rg (r a (743 + 12 * (r w n.toNat).toNatClampNeg)) 0 4) (e : m = n + 1) : rwP a w r m := by
  intro j hj
  by_cases q : (j : Int) < n
  · exact h j q
  · have e2 : j = n.toNat := by omega
    rw [e2]
    exact h1
end PQZ
