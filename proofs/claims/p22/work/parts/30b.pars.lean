/-! ===== the reference's parser: pure facts ===== -/
def isO (x : Int32) : Prop := x.toInt = 2 ∨ x.toInt = 40
/-- how many of the first n in the pile are open -/
noncomputable def cO (f : Nat → Int32) : Nat → Int
  | 0 => 0
  | n + 1 => cO f n + (if (f n).toInt = 2 ∨ (f n).toInt = 40 then 1 else 0)
def lvl (x : Int32) : Int := if x.toInt ≤ 4 then 1 else 2
/-- of two operators side by side the upper one holds closer -/
def LPs (f : Nat → Int32) (n : Nat) : Prop := ∀ j, j < n → (2 ≤ (f j).toInt ∧ (f j).toInt ≤ 6 ∨ (f j).toInt = 40) ∧ (¬ isO (f j) → 1 ≤ j → ¬ isO (f (j - 1)) → lvl (f (j - 1)) < lvl (f j))
theorem lvl_b (x : Int32) : 1 ≤ lvl x ∧ lvl x ≤ 2 := by
  unfold lvl
  split <;> exact ⟨by decide, by decide⟩
theorem cO_cg {f g : Nat → Int32} : ∀ n : Nat, (∀ j, j < n → g j = f j) → cO g n = cO f n := by
  intro n
  induction n with
  | zero => intro _; rfl
  | succ n ih =>
    intro h
    show cO g n + _ = cO f n + _
    rw [ih (fun j hj => h j (Nat.lt_succ_of_lt hj)), h n (Nat.lt_succ_self _)]
theorem cO_b (f : Nat → Int32) : ∀ n : Nat, 0 ≤ cO f n ∧ cO f n ≤ n := by
  intro n
  induction n with
  | zero => exact ⟨Int.le_refl _, Int.le_refl _⟩
  | succ n ih =>
    show 0 ≤ cO f n + _ ∧ cO f n + _ ≤ _
    split <;> omega
theorem cO_o {f : Nat → Int32} {n : Nat} (h : isO (f n)) : cO f (n + 1) = cO f n + 1 := by
  show cO f n + _ = _
  rw [if_pos (show (f n).toInt = 2 ∨ (f n).toInt = 40 from h)]
theorem cO_n {f : Nat → Int32} {n : Nat} (h : ¬ isO (f n)) : cO f (n + 1) = cO f n := by
  show cO f n + _ = _
  rw [if_neg (show ¬((f n).toInt = 2 ∨ (f n).toInt = 40) from h), Int.add_zero]
theorem LP_cg {f g : Nat → Int32} {n : Nat} (h : LPs f n) (e : ∀ j, j < n → g j = f j) : LPs g n := by
  intro j hj
  rw [e j hj]
  refine ⟨(h j hj).1, fun h1 h2 => ?_⟩
  rw [e (j - 1) (by omega)]
  exact (h j hj).2 h1 h2
theorem LP_le {f : Nat → Int32} {n k : Nat} (h : LPs f n) (hk : k ≤ n) : LPs f k := fun j hj => h j (by omega)
theorem LP_bd {f : Nat → Int32} : ∀ n : Nat, LPs f n → ((n : Int) ≤ 3 * cO f n + 2) ∧ (n = 0 ∨ isO (f (n - 1)) → (n : Int) ≤ 3 * cO f n) ∧ (1 ≤ n → ¬ isO (f (n - 1)) → (n : Int) ≤ 3 * cO f n + lvl (f (n - 1))) := by
  intro n
  induction n with
  | zero => intro _; exact ⟨by show (0 : Int) ≤ 3 * 0 + 2; decide, fun _ => by show (0 : Int) ≤ 3 * 0; decide, fun h => absurd h (by decide)⟩
  | succ n ih =>
    intro h
    obtain ⟨i1, i2, i3⟩ := ih (LP_le h (by omega))
    have l2 := lvl_b (f n)
    by_cases ho : isO (f n)
    · rw [cO_o ho]
      exact ⟨by omega, fun _ => by omega, fun _ hn => absurd ho hn⟩
    · rw [cO_n ho]
      have hb : ((n + 1 : Nat) : Int) ≤ 3 * cO f n + lvl (f n) := by
        by_cases hz : n = 0 ∨ isO (f (n - 1))
        · have := i2 hz
          omega
        · have h1 : 1 ≤ n := by omega
          have h2 : ¬ isO (f (n - 1)) := fun q => hz (Or.inr q)
          have h3 := i3 h1 h2
          have h4 := (h n (by omega)).2 ho h1 h2
          omega
      exact ⟨by omega, fun q => q.elim (fun q => absurd q (by omega)) (fun q => absurd q ho), fun _ _ => hb⟩
/-- one more in the pile -/
theorem LP_push {f g : Nat → Int32} {n : Nat} {x : Int32} (h : LPs f n) (e : g = upd f n x) (hx : 2 ≤ x.toInt ∧ x.toInt ≤ 6 ∨ x.toInt = 40) (hl : ¬ isO x → 1 ≤ n → ¬ isO (f (n - 1)) → lvl (f (n - 1)) < lvl x) : LPs g (n + 1) := by
  have eg : ∀ j, j < n → g j = f j := fun j hj => by rw [e]; unfold upd; rw [if_neg (by omega)]
  have en : g n = x := by rw [e]; unfold upd; rw [if_pos rfl]
  intro j hj
  by_cases hn : j < n
  · exact (LP_cg h eg) j hn
  · have : j = n := by omega
    subst this
    rw [en]
    refine ⟨hx, fun h1 h2 => ?_⟩
    rw [eg (j - 1) (by omega)]
    exact hl h1 h2
theorem cO_push {f g : Nat → Int32} {n : Nat} {x : Int32} (e : g = upd f n x) : cO g (n + 1) = cO f n + (if x.toInt = 2 ∨ x.toInt = 40 then 1 else 0) := by
  have eg : ∀ j, j < n → g j = f j := fun j hj => by rw [e]; unfold upd; rw [if_neg (by omega)]
  have en : g n = x := by rw [e]; unfold upd; rw [if_pos rfl]
  show cO g n + _ = _
  rw [cO_cg n eg, en]
/-- what a text under way may write: nothing that a text read before looks at -/
theorem GA_lt {f g : Nat → Int32} (h : GA f) (hg : ∀ j : Nat, (j : Int) < 3720 + 900 * (f 6).toInt → g j = f j) : TXT g ∧ FRC g := by
  have r6 := GA_r h zn_6 (lo := 0) (hi := 10) rfl
  have r7 := GA_r h zn_7 (lo := 0) (hi := 30) rfl
  obtain ⟨r6a, r6b⟩ := r6
  obtain ⟨r7a, r7b⟩ := r7
  have h6 : g 6 = f 6 := hg 6 (by omega)
  have h7 : g 7 = f 7 := hg 7 (by omega)
  refine ⟨fun t ht c hc h1 h2 => ?_, fun q hq => ?_⟩
  · rw [h6] at ht
    have ht10 : t < 10 := by omega
    have e0 : zn (3720 + 900 * t) = 900 := zn_t0 rfl ht10
    have g0 : g (3720 + 900 * t) = f (3720 + 900 * t) := hg _ (by omega)
    rw [g0] at hc
    have r0 := GA_r h e0 (lo := 0) (hi := 20) rfl
    obtain ⟨r0a, r0b⟩ := r0
    have hc20 : c < 20 := by omega
    have gk : ∀ k, k < 12 → g (3721 + 900 * t + 12 * c + k) = f (3721 + 900 * t + 12 * c + k) := fun k hk => hg _ (by omega)
    have gk0 : g (3721 + 900 * t + 12 * c) = f (3721 + 900 * t + 12 * c) := gk 0 (by decide)
    rw [gk0] at h1 h2
    obtain ⟨w1, w2, w3, w4⟩ := h.2.1 t ht c hc h1 h2
    rw [gk 2 (by decide), gk 3 (by decide)]
    refine ⟨w1, w2, w3, ?_⟩
    rw [rnn_cg _ (fun j hj => ?_)]
    · exact w4
    · have z1 := clampE (f (3721 + 900 * t + 12 * c + 2))
      have z2 := clampE (f (3721 + 900 * t + 12 * c + 3))
      exact hg _ (by omega)
  · rw [h7] at hq
    rw [hg _ (by omega), h6]
    exact h.2.2 q hq
theorem GA_wt {f : Nat → Int32} (h : GA f) {i k : Nat} {x : Int32} {lo hi : Int} (e : zn i = k) (e2 : rzt k = (lo, hi)) (hx : rg x lo hi) (hi2 : 3720 + 900 * (f 6).toInt ≤ (i : Int)) (hk : k ≠ 403) : GA (upd f i x) := by
  refine ⟨⟨fun j => ?_, fun j hj => ?_⟩, GA_lt h (fun j hj => ?_)⟩
  · unfold upd
    split
    · next q => rw [q, e, e2]; exact hx
    · exact h.1.1 j
  · unfold upd
    split
    · next q => rw [q, e] at hj; exact absurd hj hk
    · exact h.1.2 j hj
  · unfold upd
    rw [if_neg (by omega)]
theorem GM.wt {X : List Nat} {tg : Nat → Nat} {σ : pq_S} {I0 r0 I ri r1 : Nat → Nat → Int32} {rq : Nat → Nat → Option Nat} (h : GM X tg σ I0 r0 I ri rq) {q t k : Nat} {v x : Int32} {lo hi : Int} (ht : tg q = t) (hz : zt t = true ∧ rAm t = (-2147483648, 2147483647)) (e1 : r1 = va_up ri q (upd (ri q) v.toNatClampNeg x)) (e : zn v.toNatClampNeg = k) (e2 : rzt k = (lo, hi)) (hx : rg x lo hi) (hv : 3720 + 900 * (ri q 6).toInt ≤ (v.toNatClampNeg : Int)) (hX : ((k ∉ ztl ∨ 1000 + k ∈ X) ∧ ∀ p ∈ frl, p.1 = t → p.2 ∈ X) ∧ k ≠ 403) : GM X tg σ I0 r0 I r1 rq := GM.wz0 h ht hz.1 hz.2 e1 e e2 hx hX.1 (fun hG => GA_wt hG e e2 hx hv hX.2) (fun q => absurd q hX.2)
theorem em_all {f g : Nat → Int32} {b : Nat} {fr i : Int} {o : Int32} (h : fr ≤ i) (hg : ∀ j : Nat, (j : Int) < i - fr → g (b + 2 * j) = f (b + 2 * j)) (e : g (b + 2 * (i - fr).toNat) = o) (hok : oN f b fr i) (hr : (o.toInt = 2 → 1 ≤ vN f b fr i) ∧ (2 < o.toInt ∧ o.toInt < 20 → 2 ≤ vN f b fr i) ∧ (o.toInt = 20 → 1 ≤ tN f b fr i) ∧ (20 < o.toInt → 2 ≤ tN f b fr i)) : oN g b fr (i + 1) ∧ (o.toInt ≤ 1 → vN g b fr (i + 1) = vN f b fr i + 1 ∧ tN g b fr (i + 1) = tN f b fr i) ∧ (o.toInt = 2 → vN g b fr (i + 1) = vN f b fr i ∧ tN g b fr (i + 1) = tN f b fr i) ∧ (2 < o.toInt ∧ o.toInt < 10 → vN g b fr (i + 1) = vN f b fr i - 1 ∧ tN g b fr (i + 1) = tN f b fr i) ∧ (10 ≤ o.toInt ∧ o.toInt < 20 → vN g b fr (i + 1) = vN f b fr i - 2 ∧ tN g b fr (i + 1) = tN f b fr i + 1) ∧ (o.toInt = 20 → vN g b fr (i + 1) = vN f b fr i ∧ tN g b fr (i + 1) = tN f b fr i) ∧ (20 < o.toInt → vN g b fr (i + 1) = vN f b fr i ∧ tN g b fr (i + 1) = tN f b fr i - 1) := by
  unfold oN vN tN at *
  rw [rnn_s h, e, rnn_cg _ (fun j hj => hg j (by omega))]
  generalize rnn f b (i - fr).toNat = s at *
  unfold stp
  obtain ⟨r1, r2, r3, r4⟩ := hr
  repeat' split
  all_goals (simp only [Bool.and_eq_true, decide_eq_true_eq]; refine ⟨?_, ?_, ?_, ?_, ?_, ?_, ?_⟩ <;> (first | (intro q; exfalso; omega) | (intro _; exact ⟨rfl, rfl⟩) | (intro _; exact ⟨trivial, trivial⟩) | exact hok | exact ⟨hok, by omega⟩))