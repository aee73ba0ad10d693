/-! ===== pure: TOKENS of the class ===== -/
section PR0
/-- from p on all are such, up to e -/
def spn (P : Int32 → Prop) (T : Nat → Int32) (n p e : Nat) : Prop := p ≤ e ∧ e ≤ n ∧ (∀ j, p ≤ j → j < e → P (T j)) ∧ (e < n → ¬ P (T e))
theorem spn_ex (P : Int32 → Prop) (T : Nat → Int32) (n : Nat) : ∀ (k p : Nat), p ≤ n → n - p = k → ∃ e, spn P T n p e
  | 0, p, h, hk => ⟨p, Nat.le_refl _, h, fun j h1 h2 => absurd h1 (by omega), fun h1 => absurd h1 (by omega)⟩
  | k + 1, p, h, hk => by
    by_cases c : P (T p)
    · obtain ⟨e, e1, e2, e3, e4⟩ := spn_ex P T n k (p + 1) (by omega) (by omega)
      refine ⟨e, by omega, e2, fun j h1 h2 => ?_, e4⟩
      by_cases q : j = p
      · rw [q]; exact c
      · exact e3 j (by omega) h2
    · exact ⟨p, Nat.le_refl _, h, fun j h1 h2 => absurd h1 (by omega), fun _ => c⟩
theorem spn_s {P : Int32 → Prop} {T : Nat → Int32} {n p e : Nat} (h : spn P T n p e) (hp : p < n) (hP : P (T p)) : p < e ∧ spn P T n (p + 1) e := by
  obtain ⟨e1, e2, e3, e4⟩ := h
  have hpe : p < e := by
    by_cases q : p = e
    · rw [← q] at e4; exact absurd hP (e4 hp)
    · omega
  exact ⟨hpe, hpe, e2, fun j h1 h2 => e3 j (by omega) h2, e4⟩
theorem spn_z {P : Int32 → Prop} {T : Nat → Int32} {n p e : Nat} (h : spn P T n p e) (hP : n ≤ p ∨ ¬ P (T p)) : e = p := by
  obtain ⟨e1, e2, e3, e4⟩ := h
  by_cases q : p = e
  · exact q.symm
  · rcases hP with y | y
    · omega
    · exact absurd (e3 p (Nat.le_refl _) (by omega)) y
def blk (x : Int32) : Prop := x = 32 ∨ x = 10
def dgt (x : Int32) : Prop := 48 ≤ x.toInt ∧ x.toInt ≤ 57
def ltr (x : Int32) : Prop := 65 ≤ x.toInt ∧ x.toInt ≤ 90 ∨ 97 ≤ x.toInt ∧ x.toInt ≤ 122
theorem isD_1 {x : Int32} (h : dgt x) : g_X6_isDigit_x x = 1 := by
  have k1 : (48 : Int32).toInt = 48 := by decide
  have k2 : (57 : Int32).toInt = 57 := by decide
  unfold dgt at h
  rw [g_X6_isDigit_x_e, if_neg (show ¬ x < 48 from fun q => by have q1 := Int32.lt_iff_toInt_lt.mp q; omega), if_neg (show ¬ 57 < x from fun q => by have q1 := Int32.lt_iff_toInt_lt.mp q; omega)]
theorem isD_0 {x : Int32} (h : ¬ dgt x) : g_X6_isDigit_x x = 0 := by
  have k1 : (48 : Int32).toInt = 48 := by decide
  have k2 : (57 : Int32).toInt = 57 := by decide
  unfold dgt at h
  rw [g_X6_isDigit_x_e]
  by_cases a : x < 48
  · rw [if_pos a]
  · have a1 := Int32.le_iff_toInt_le.mp (Int32.not_lt.mp a)
    rw [if_neg a, if_pos (show 57 < x from Int32.lt_iff_toInt_lt.mpr (by omega))]
theorem isL_1 {x : Int32} (h : ltr x) : g_X6_isLetter_x x = 1 := by
  have k1 : (65 : Int32).toInt = 65 := by decide
  have k2 : (90 : Int32).toInt = 90 := by decide
  have k3 : (97 : Int32).toInt = 97 := by decide
  have k4 : (122 : Int32).toInt = 122 := by decide
  unfold ltr at h
  rw [g_X6_isLetter_x_e]
  by_cases a : x < 97
  · have a1 := Int32.lt_iff_toInt_lt.mp a
    rw [if_pos a, if_neg (show ¬ x < 65 from fun q => by have q1 := Int32.lt_iff_toInt_lt.mp q; omega), if_neg (show ¬ 90 < x from fun q => by have q1 := Int32.lt_iff_toInt_lt.mp q; omega)]
  · have a1 := Int32.le_iff_toInt_le.mp (Int32.not_lt.mp a)
    rw [if_neg a, if_pos (show x ≤ 122 from Int32.le_iff_toInt_le.mpr (by omega))]
theorem isL_0 {x : Int32} (h : ¬ ltr x) : g_X6_isLetter_x x = 0 := by
  have k1 : (65 : Int32).toInt = 65 := by decide
  have k2 : (90 : Int32).toInt = 90 := by decide
  have k3 : (97 : Int32).toInt = 97 := by decide
  have k4 : (122 : Int32).toInt = 122 := by decide
  unfold ltr at h
  rw [g_X6_isLetter_x_e]
  by_cases a : x < 97
  · have a1 := Int32.lt_iff_toInt_lt.mp a
    rw [if_pos a]
    by_cases b : x < 65
    · rw [if_pos b]
    · have b1 := Int32.le_iff_toInt_le.mp (Int32.not_lt.mp b)
      rw [if_neg b, if_pos (show 90 < x from Int32.lt_iff_toInt_lt.mpr (by omega))]
  · have a1 := Int32.le_iff_toInt_le.mp (Int32.not_lt.mp a)
    rw [if_neg a, if_neg (show ¬ x ≤ 122 from fun q => by have q1 := Int32.le_iff_toInt_le.mp q; omega)]
variable {J : Nat → Int64} {ri : Nat → Nat → Int32} {rj : Nat → Nat → Int64} {rq : Nat → Nat → Option Nat}
/-- an int that is this number -/
theorem at_n {x : Int32} {p : Nat} (h : x.toInt = (p : Int)) : x.toNatClampNeg = p := by have z := clampE x; omega
theorem le_n {x y : Int32} {p q : Nat} (hx : x.toInt = (p : Int)) (hy : y.toInt = (q : Int)) : x ≤ y ↔ p ≤ q := by rw [Int32.le_iff_toInt_le, hx, hy]; omega
theorem lt_n {x y : Int32} {p q : Nat} (hx : x.toInt = (p : Int)) (hy : y.toInt = (q : Int)) : x < y ↔ p < q := by rw [Int32.lt_iff_toInt_lt, hx, hy]; omega
theorem eq_n {x y : Int32} {p q : Nat} (hx : x.toInt = (p : Int)) (hy : y.toInt = (q : Int)) : x = y ↔ p = q := by
  rw [← Int32.toInt_inj, hx, hy]; omega
theorem upN {x : Int32} {p : Nat} (h : x.toInt = (p : Int)) (hp : p ≤ 1000) : (x + 1).toInt = ((p + 1 : Nat) : Int) := by
  rw [t1_one (by omega) (by omega), h]; omega
theorem up_i {x : Int32} {p : Nat} (h : x.toInt = (p : Int)) (hp : p ≤ 1000) : (x + Int32.ofInt 1).toInt = ((p + 1 : Nat) : Int) := by
  rw [t1_inc (by omega) (by omega), h]; omega
/-- the NUMBER of the digits from p on -/
def nvC (T : Nat → Int32) : Nat → Nat → Int32 → Int32
  | 0, _, v => v
  | k + 1, p, v => nvC T k (p + 1) (if v * 10 + T p - 48 < 10000 then v * 10 + T p - 48 else 10000)
theorem takeN_L {n : Nat} (h3 : n ≤ 300) : ∀ (m : Nat) (I : Nat → Int32) (p e : Nat), (I 193).toInt = (n : Int) → (I 197).toInt = (p : Int) → p ≤ n → 300 - p < m → spn dgt (ri 192) n p e → ∃ I', g_X6_takeNumber_x_L11 J ri rj rq m I = (I', J, ri, rj, rq) ∧ (I' 197).toInt = (e : Int) ∧ I' 196 = nvC (ri 192) (e - p) p (I 196) ∧ ∀ f, f ≠ 196 → f ≠ 197 → I' f = I f := by
  intro m
  induction m with
  | zero => intro I p e _ _ _ h; exact absurd h (Nat.not_lt_zero _)
  | succ m ih =>
    intro I p e hn hp hpn hm hs
    rw [g_X6_takeNumber_x_L11_e]
    simp only [↓ap1_n]
    by_cases c : I 193 ≤ I 197
    · rw [if_pos c]
      have c1 := (le_n hn hp).mp c
      have e1 := spn_z hs (Or.inl c1)
      subst e1
      exact ⟨I, rfl, hp, by rw [Nat.sub_self]; rfl, fun _ _ _ => rfl⟩
    · have c1 : p < n := Nat.lt_of_not_le (fun q => c ((le_n hn hp).mpr q))
      rw [if_neg c, at_n hp]
      by_cases d : dgt (ri 192 p)
      · rw [isD_1 d, if_neg (show ¬ (1 : Int32) = 0 by decide)]
        obtain ⟨s1, s2⟩ := spn_s hs c1 d
        have w : va_up I 196 (if I 196 * 10 + ri 192 p - 48 < 10000 then I 196 * 10 + ri 192 p - 48 else 10000) 197 = I 197 := va_up_ne _ _ (by decide)
        rw [w]
        obtain ⟨I', i1, i2, i3, i4⟩ := ih (va_up (va_up I 196 (if I 196 * 10 + ri 192 p - 48 < 10000 then I 196 * 10 + ri 192 p - 48 else 10000)) 197 (I 197 + 1)) (p + 1) e (by rw [va_up_ne _ _ (show (193 : Nat) ≠ 197 by decide), va_up_ne _ _ (show (193 : Nat) ≠ 196 by decide)]; exact hn) (by rw [va_up_self]; exact upN hp (by omega)) (by omega) (by omega) s2
        refine ⟨I', i1, i2, ?_, fun f f1 f2 => by rw [i4 f f1 f2, va_up_ne _ _ f2, va_up_ne _ _ f1]⟩
        rw [i3, va_up_ne _ _ (show (196 : Nat) ≠ 197 by decide), va_up_self, show e - p = (e - (p + 1)) + 1 by omega]
        rfl
      · rw [isD_0 d, if_pos (show (0 : Int32) = 0 from rfl)]
        have e1 := spn_z hs (Or.inr d)
        subst e1
        exact ⟨I, rfl, hp, by rw [Nat.sub_self]; rfl, fun _ _ _ => rfl⟩
theorem takeN_v {n : Nat} (h3 : n ≤ 300) {I : Nat → Int32} {p e : Nat} (hn : (I 193).toInt = (n : Int)) (hp : (I 197).toInt = (p : Int)) (hpn : p ≤ n) (hs : spn dgt (ri 192) n p e) : ∃ I', g_X6_takeNumber_x I J ri rj rq = (I', J, ri, rj, rq) ∧ (I' 197).toInt = (e : Int) ∧ I' 194 = 18 ∧ I' 196 = nvC (ri 192) (e - p) p 0 ∧ ∀ f, f ≠ 194 → f ≠ 196 → f ≠ 197 → I' f = I f := by
  rw [g_X6_takeNumber_x_e]
  simp only [↓ap1_n]
  have w : va_up (va_up I 194 18) 196 0 197 = I 197 := by rw [va_up_ne _ _ (show (197 : Nat) ≠ 196 by decide), va_up_ne _ _ (show (197 : Nat) ≠ 194 by decide)]
  rw [w]
  obtain ⟨I', i1, i2, i3, i4⟩ := takeN_L (J := J) (rj := rj) (rq := rq) h3 ((300 - (I 197).toInt).toNat + 1) (va_up (va_up I 194 18) 196 0) p e (by rw [va_up_ne _ _ (show (193 : Nat) ≠ 196 by decide), va_up_ne _ _ (show (193 : Nat) ≠ 194 by decide)]; exact hn) (by rw [w]; exact hp) hpn (by omega) hs
  refine ⟨I', i1, i2, ?_, ?_, fun f f1 f2 f3 => by rw [i4 f f2 f3, va_up_ne _ _ f2, va_up_ne _ _ f1]⟩
  · rw [i4 194 (by decide) (by decide), va_up_ne _ _ (show (194 : Nat) ≠ 196 by decide), va_up_self]
  · rw [i3, va_up_self]
/-! the words -/
def txW (k : Nat) : Int32 := txB.getD k 0 &&& 255
theorem txC_n {x : Int32} {p : Nat} (h : x.toInt = (p : Int)) : txC x = txW p := by
  unfold txC txW
  rw [at_n h]
/-- so many signs behind s are those of the words behind o -/
def mt (T : Nat → Int32) : Nat → Nat → Nat → Prop
  | 0, _, _ => True
  | l + 1, s, o => T s = txW o ∧ mt T l (s + 1) (o + 1)
theorem mt_at {T : Nat → Int32} : ∀ (l s o : Nat), mt T l s o ↔ ∀ j, j < l → T (s + j) = txW (o + j)
  | 0, s, o => ⟨fun _ j hj => absurd hj (Nat.not_lt_zero _), fun _ => trivial⟩
  | l + 1, s, o => by
    show (T s = txW o ∧ mt T l (s + 1) (o + 1)) ↔ _
    rw [mt_at l (s + 1) (o + 1)]
    constructor
    · intro ⟨a, b⟩ j hj
      cases j with
      | zero => exact a
      | succ j => rw [show s + (j + 1) = s + 1 + j by omega, show o + (j + 1) = o + 1 + j by omega]; exact b j (by omega)
    · intro h
      exact ⟨h 0 (by omega), fun j hj => by rw [show s + 1 + j = s + (j + 1) by omega, show o + 1 + j = o + (j + 1) by omega]; exact h (j + 1) (by omega)⟩
/-- the word from s to e is the one of l signs at o -/
def isW (T : Nat → Int32) (s e o l : Nat) : Prop := e = s + l ∧ mt T l s o
/-- one word of the row: what is left of it is d signs; lk: all ahead was alike -/
theorem word_1 {n : Nat} {s e o l : Nat} {k : Int32} {I : Nat → Int32} (hs : s ≤ e) (he : e ≤ n) (h3 : n ≤ 300) (hsI : (I 195).toInt = (s : Int)) (heI : (I 197).toInt = (e : Int)) (h34 : I 194 = 34) (ho : o + l < 94) (hW : ∀ j, j < l → txW (o + j) ≠ 32) (hB : txW (o + l) = 32) : ∀ (d j : Nat) (x2 x3 x4 : Int32), d + j = l → x2.toInt = ((s + j : Nat) : Int) → x4.toInt = ((o + j : Nat) : Int) → ((x3 = 1 ∧ s + j ≤ e ∧ ∀ i, i < j → ri 192 (s + i) = txW (o + i)) ∨ (x3 = 0 ∧ ¬ (s + j ≤ e ∧ ∀ i, i < j → ri 192 (s + i) = txW (o + i)))) → (isW (ri 192) s e o l ∧ ∃ x2' x3' x4', x4'.toInt = ((o + l + 1 : Nat) : Int) ∧ g_X6_takeWord_L57 J ri rj rq (95 - (o + j)) k x2 x3 x4 I = g_X6_takeWord_L57 J ri rj rq (95 - (o + l + 1)) k x2' x3' x4' (va_up I 194 k)) ∨ (¬ isW (ri 192) s e o l ∧ ∃ x4', x4'.toInt = ((o + l + 1 : Nat) : Int) ∧ g_X6_takeWord_L57 J ri rj rq (95 - (o + j)) k x2 x3 x4 I = g_X6_takeWord_L57 J ri rj rq (95 - (o + l + 1)) (k + Int32.ofInt 1) (I 195) 1 x4' I) := by
  have k94 : (94 : Int32).toInt = ((94 : Nat) : Int) := by decide
  intro d
  induction d with
  | zero =>
    intro j x2 x3 x4 hd h2 h4 hk
    have hj : j = l := by omega
    subst hj
    rw [show 95 - (o + j) = (95 - (o + j + 1)) + 1 by omega, g_X6_takeWord_L57_e]
    simp only [↓ap1_n]
    rw [if_neg (fun q => by have := (le_n k94 h4).mp q; omega), if_pos h34, txC_n h4, if_pos hB]
    rcases hk with ⟨a, b, c⟩ | ⟨a, b⟩
    · rw [a, if_neg (show ¬ (1 : Int32) = 0 by decide)]
      by_cases q : x2 = I 197
      · have q1 := (eq_n h2 heI).mp q
        rw [if_pos q]
        exact Or.inl ⟨⟨q1.symm, (mt_at _ _ _).mpr c⟩, x2, 1, x4 + Int32.ofInt 1, up_i h4 (by omega), rfl⟩
      · have q1 : ¬ s + j = e := fun y => q ((eq_n h2 heI).mpr y)
        rw [if_neg q]
        exact Or.inr ⟨fun y => q1 y.1.symm, x4 + Int32.ofInt 1, up_i h4 (by omega), rfl⟩
    · rw [a, if_pos (show (0 : Int32) = 0 from rfl)]
      exact Or.inr ⟨fun y => b ⟨by have := y.1; omega, (mt_at _ _ _).mp y.2⟩, x4 + Int32.ofInt 1, up_i h4 (by omega), rfl⟩
  | succ d ih =>
    intro j x2 x3 x4 hd h2 h4 hk
    rw [show 95 - (o + j) = (95 - (o + (j + 1))) + 1 by omega, g_X6_takeWord_L57_e]
    simp only [↓ap1_n]
    have k32 := hW j (by omega)
    rw [if_neg (fun q => by have := (le_n k94 h4).mp q; omega), if_pos h34, txC_n h4, if_neg k32]
    have u2 : (x2 + Int32.ofInt 1).toInt = ((s + (j + 1) : Nat) : Int) := up_i (p := s + j) h2 (by omega)
    have u4 : (x4 + Int32.ofInt 1).toInt = ((o + (j + 1) : Nat) : Int) := up_i (p := o + j) h4 (by omega)
    rcases hk with ⟨a, b, c⟩ | ⟨a, b⟩
    · rw [a, if_neg (show ¬ (1 : Int32) = 0 by decide)]
      by_cases q : I 197 ≤ x2
      · have q1 := (le_n heI h2).mp q
        rw [if_pos q]
        exact ih (j + 1) _ 0 _ (by omega) u2 u4 (Or.inr ⟨rfl, fun y => absurd y.1 (by omega)⟩)
      · have q1 : ¬ e ≤ s + j := fun y => q ((le_n heI h2).mpr y)
        rw [if_neg q, at_n h2]
        by_cases w : ri 192 (s + j) = txW (o + j)
        · rw [if_pos w]
          refine ih (j + 1) _ 1 _ (by omega) u2 u4 (Or.inl ⟨rfl, by omega, fun i hi => ?_⟩)
          by_cases z : i = j
          · rw [z]; exact w
          · exact c i (by omega)
        · rw [if_neg w]
          exact ih (j + 1) _ 0 _ (by omega) u2 u4 (Or.inr ⟨rfl, fun y => w (y.2 j (by omega))⟩)
    · rw [a, if_pos (show (0 : Int32) = 0 from rfl)]
      exact ih (j + 1) _ 0 _ (by omega) u2 u4 (Or.inr ⟨rfl, fun y => b ⟨by omega, fun i hi => y.2 i (by omega)⟩⟩)
theorem word_end {m : Nat} {k x2 x3 x4 : Int32} {I : Nat → Int32} (h : I 194 ≠ 34) : g_X6_takeWord_L57 J ri rj rq m k x2 x3 x4 I = (I, J, ri, rj, rq) := by
  cases m with
  | zero => rfl
  | succ m =>
    rw [g_X6_takeWord_L57_e]
    simp only [↓ap1_n]
    by_cases c : (94 : Int32) ≤ x4
    · rw [if_pos c]
    · rw [if_neg c, if_neg h]
/-- which word it is: the first of a list (place, signs) -/
noncomputable def wtk (T : Nat → Int32) (s e : Nat) : List (Nat × Nat) → Int32 → Int32
  | [], _ => 34
  | a :: L, k => @ite _ (isW T s e a.1 a.2) (Classical.propDecidable _) k (wtk T s e L (k + Int32.ofInt 1))
/-- the list lies in the row from o on, one word behind the other -/
def wlay : Nat → List (Nat × Nat) → Prop
  | o, [] => o = 94
  | o, a :: L => a.1 = o ∧ o + a.2 < 94 ∧ (∀ j, j < a.2 → txW (o + j) ≠ 32) ∧ txW (o + a.2) = 32 ∧ wlay (o + a.2 + 1) L
theorem word_all {n : Nat} {s e : Nat} {I : Nat → Int32} (hs : s ≤ e) (he : e ≤ n) (h3 : n ≤ 300) (hsI : (I 195).toInt = (s : Int)) (heI : (I 197).toInt = (e : Int)) (h34 : I 194 = 34) : ∀ (L : List (Nat × Nat)) (o : Nat) (k x4 : Int32), wlay o L → k.toInt + L.length ≤ 30 → 0 ≤ k.toInt → x4.toInt = (o : Int) → ∃ I', g_X6_takeWord_L57 J ri rj rq (95 - o) k (I 195) 1 x4 I = (I', J, ri, rj, rq) ∧ I' 194 = wtk (ri 192) s e L k ∧ ∀ f, f ≠ 194 → I' f = I f
  | [], o, k, x4, hl, hk, hk0, h4 => by
    have ho : o = 94 := hl
    subst ho
    rw [show 95 - 94 = 0 + 1 from rfl, g_X6_takeWord_L57_e]
    rw [if_pos ((le_n (show (94 : Int32).toInt = ((94 : Nat) : Int) by decide) h4).mpr (Nat.le_refl _))]
    exact ⟨I, rfl, h34, fun _ _ => rfl⟩
  | a :: L, o, k, x4, hl, hk, hk0, h4 => by
    obtain ⟨l1, l2, l3, l4, l5⟩ := hl
    have hlen : (a :: L).length = L.length + 1 := rfl
    rw [hlen] at hk
    have uk : (k + Int32.ofInt 1).toInt = k.toInt + 1 := t1_inc (by omega) (by omega)
    have hne : k ≠ 34 := fun q => by rw [q] at hk; have : (34 : Int32).toInt = 34 := by decide
                                     omega
    rcases word_1 (J := J) (rj := rj) (rq := rq) (k := k) hs he h3 hsI heI h34 l2 l3 l4 a.2 0 (I 195) 1 x4 (by omega) (by omega) (by omega) (Or.inl ⟨rfl, hs, fun i hi => absurd hi (Nat.not_lt_zero _)⟩) with ⟨w, x2', x3', x4', w1, w2⟩ | ⟨w, x4', w1, w2⟩
    · rw [show 95 - o = 95 - (o + 0) from rfl, w2, word_end (by rw [va_up_self]; exact hne)]
      refine ⟨_, rfl, ?_, fun f hf => va_up_ne _ _ hf⟩
      rw [va_up_self]
      show _ = @ite _ (isW (ri 192) s e a.1 a.2) (Classical.propDecidable _) k _
      rw [l1]
      exact (if_pos w).symm
    · rw [show 95 - o = 95 - (o + 0) from rfl, w2]
      obtain ⟨I', i1, i2, i3⟩ := word_all hs he h3 hsI heI h34 L (o + a.2 + 1) (k + Int32.ofInt 1) x4' l5 (by omega) (by omega) w1
      refine ⟨I', i1, ?_, i3⟩
      rw [i2]
      show _ = @ite _ (isW (ri 192) s e a.1 a.2) (Classical.propDecidable _) k _
      rw [l1]
      exact (if_neg w).symm
def WL : List (Nat × Nat) := [(0, 5), (6, 6), (13, 3), (17, 4), (22, 5), (28, 4), (33, 7), (41, 3), (45, 5), (51, 2), (54, 3), (58, 3), (62, 3), (66, 3), (70, 5), (76, 5), (82, 5), (88, 5)]
theorem wlay_s {o l : Nat} {L : List (Nat × Nat)} (h1 : o + l < 94) (h2 : ∀ j, j < l → txW (o + j) ≠ 32) (h3 : txW (o + l) = 32) (h4 : wlay (o + l + 1) L) : wlay o ((o, l) :: L) := by
  unfold wlay
  exact ⟨rfl, h1, h2, h3, h4⟩
theorem wlay_0 : wlay 0 WL := wlay_s (o := 0) (l := 5) (by decide) (by decide +kernel) (by decide +kernel) (wlay_s (o := 6) (l := 6) (by decide) (by decide +kernel) (by decide +kernel) (wlay_s (o := 13) (l := 3) (by decide) (by decide +kernel) (by decide +kernel) (wlay_s (o := 17) (l := 4) (by decide) (by decide +kernel) (by decide +kernel) (wlay_s (o := 22) (l := 5) (by decide) (by decide +kernel) (by decide +kernel) (wlay_s (o := 28) (l := 4) (by decide) (by decide +kernel) (by decide +kernel) (wlay_s (o := 33) (l := 7) (by decide) (by decide +kernel) (by decide +kernel) (wlay_s (o := 41) (l := 3) (by decide) (by decide +kernel) (by decide +kernel) (wlay_s (o := 45) (l := 5) (by decide) (by decide +kernel) (by decide +kernel) (wlay_s (o := 51) (l := 2) (by decide) (by decide +kernel) (by decide +kernel) (wlay_s (o := 54) (l := 3) (by decide) (by decide +kernel) (by decide +kernel) (wlay_s (o := 58) (l := 3) (by decide) (by decide +kernel) (by decide +kernel) (wlay_s (o := 62) (l := 3) (by decide) (by decide +kernel) (by decide +kernel) (wlay_s (o := 66) (l := 3) (by decide) (by decide +kernel) (by decide +kernel) (wlay_s (o := 70) (l := 5) (by decide) (by decide +kernel) (by decide +kernel) (wlay_s (o := 76) (l := 5) (by decide) (by decide +kernel) (by decide +kernel) (wlay_s (o := 82) (l := 5) (by decide) (by decide +kernel) (by decide +kernel) (wlay_s (o := 88) (l := 5) (by decide) (by decide +kernel) (by decide +kernel) ((rfl : (94 : Nat) = 94)))))))))))))))))))
theorem takeW_K {n : Nat} (h3 : n ≤ 300) {I : Nat → Int32} {s e : Nat} (hs : s ≤ e) (he : e ≤ n) (hsI : (I 195).toInt = (s : Int)) (heI : (I 197).toInt = (e : Int)) : ∃ I', g_X6_takeWord_K39 I J ri rj rq = (I', J, ri, rj, rq) ∧ I' 194 = wtk (ri 192) s e WL 0 ∧ ∀ f, f ≠ 194 → I' f = I f := by
  rw [g_X6_takeWord_K39_e]
  simp only [↓ap1_n]
  obtain ⟨I', i1, i2, i3⟩ := word_all (J := J) (ri := ri) (rj := rj) (rq := rq) (I := va_up I 194 34) hs he h3 (by rw [va_up_ne _ _ (show (195 : Nat) ≠ 194 by decide)]; exact hsI) (by rw [va_up_ne _ _ (show (197 : Nat) ≠ 194 by decide)]; exact heI) (va_up_self _ _ _) WL 0 0 0 wlay_0 (by decide) (by decide) (by decide)
  exact ⟨I', i1, i2, fun f hf => (i3 f hf).trans (va_up_ne _ _ hf)⟩
theorem takeW_L2 : ∀ (m : Nat) (x1 x2 x3 x4 : Int32) (I : Nat → Int32), g_X6_takeWord_L57_2 J ri rj rq m x1 x2 x3 x4 I = g_X6_takeWord_L57 J ri rj rq m x1 x2 x3 x4 I
  | 0, _, _, _, _, _ => rfl
  | m + 1, x1, x2, x3, x4, I => by
    have h : g_X6_takeWord_L57_2 J ri rj rq m = g_X6_takeWord_L57 J ri rj rq m := funext fun _ => funext fun _ => funext fun _ => funext fun _ => funext fun _ => takeW_L2 m _ _ _ _ _
    rw [g_X6_takeWord_L57_2_e, g_X6_takeWord_L57_e, h]
theorem takeW_K2 {I : Nat → Int32} : g_X6_takeWord_K39_2 J ri rj rq I = g_X6_takeWord_K39 I J ri rj rq := by
  rw [g_X6_takeWord_K39_2_e, g_X6_takeWord_K39_e]
  simp only [↓ap1_n, takeW_L2]
theorem takeW_L {n : Nat} (h3 : n ≤ 300) : ∀ (m : Nat) (I : Nat → Int32) (p s e : Nat), (I 193).toInt = (n : Int) → (I 197).toInt = (p : Int) → (I 195).toInt = (s : Int) → s ≤ p → p ≤ n → 300 - p < m → spn ltr (ri 192) n p e → ∃ I', g_X6_takeWord_L0 J ri rj rq m I = (I', J, ri, rj, rq) ∧ (I' 197).toInt = (e : Int) ∧ I' 194 = wtk (ri 192) s e WL 0 ∧ ∀ f, f ≠ 194 → f ≠ 197 → I' f = I f := by
  intro m
  induction m with
  | zero => intro I p s e _ _ _ _ _ h; exact absurd h (Nat.not_lt_zero _)
  | succ m ih =>
    intro I p s e hn hp hsI hsp hpn hm hs
    have done : e = p → ∃ I', g_X6_takeWord_K39_2 J ri rj rq I = (I', J, ri, rj, rq) ∧ (I' 197).toInt = (e : Int) ∧ I' 194 = wtk (ri 192) s e WL 0 ∧ ∀ f, f ≠ 194 → f ≠ 197 → I' f = I f := fun e1 => by
      subst e1
      obtain ⟨I', i1, i2, i3⟩ := takeW_K (J := J) (ri := ri) (rj := rj) (rq := rq) h3 hsp hpn hsI hp
      exact ⟨I', takeW_K2.trans i1, by rw [i3 197 (by decide)]; exact hp, i2, fun f f1 _ => i3 f f1⟩
    rw [g_X6_takeWord_L0_e]
    simp only [↓ap1_n]
    by_cases c : I 193 ≤ I 197
    · rw [if_pos c]
      exact done (spn_z hs (Or.inl ((le_n hn hp).mp c)))
    · have c1 : p < n := Nat.lt_of_not_le (fun q => c ((le_n hn hp).mpr q))
      rw [if_neg c, at_n hp]
      by_cases d : ltr (ri 192 p)
      · rw [isL_1 d, if_neg (show ¬ (1 : Int32) = 0 by decide)]
        obtain ⟨s1, s2⟩ := spn_s hs c1 d
        obtain ⟨I', i1, i2, i3, i4⟩ := ih (va_up I 197 (I 197 + 1)) (p + 1) s e (by rw [va_up_ne _ _ (show (193 : Nat) ≠ 197 by decide)]; exact hn) (by rw [va_up_self]; exact upN hp (by omega)) (by rw [va_up_ne _ _ (show (195 : Nat) ≠ 197 by decide)]; exact hsI) (by omega) (by omega) (by omega) s2
        exact ⟨I', i1, i2, i3, fun f f1 f2 => (i4 f f1 f2).trans (va_up_ne _ _ f2)⟩
      · rw [isL_0 d, if_pos (show (0 : Int32) = 0 from rfl)]
        exact done (spn_z hs (Or.inr d))
theorem takeW_v {n : Nat} (h3 : n ≤ 300) {I : Nat → Int32} {s e : Nat} (hn : (I 193).toInt = (n : Int)) (hp : (I 197).toInt = (s : Int)) (hsI : (I 195).toInt = (s : Int)) (hsn : s < n) (hl : ltr (ri 192 s)) (hs : spn ltr (ri 192) n s e) : ∃ I', g_X6_takeWord I J ri rj rq = (I', J, ri, rj, rq) ∧ (I' 197).toInt = (e : Int) ∧ I' 194 = wtk (ri 192) s e WL 0 ∧ ∀ f, f ≠ 194 → f ≠ 197 → I' f = I f := by
  rw [g_X6_takeWord_e]
  simp only [↓ap1_n]
  rw [if_neg (fun q => by have := (le_n hn hp).mp q; omega), at_n hp, isL_1 hl, if_neg (show ¬ (1 : Int32) = 0 by decide)]
  obtain ⟨s1, s2⟩ := spn_s hs hsn hl
  have up := upN hp (by omega)
  have w : va_up I 197 (I 197 + 1) 197 = I 197 + 1 := va_up_self _ _ _
  rw [w]
  obtain ⟨I', i1, i2, i3, i4⟩ := takeW_L (J := J) (ri := ri) (rj := rj) (rq := rq) h3 ((300 - (I 197 + 1).toInt).toNat + 1) (va_up I 197 (I 197 + 1)) (s + 1) s e (by rw [va_up_ne _ _ (show (193 : Nat) ≠ 197 by decide)]; exact hn) (by rw [w]; exact up) (by rw [va_up_ne _ _ (show (195 : Nat) ≠ 197 by decide)]; exact hsI) (by omega) (by omega) (by omega) s2
  exact ⟨I', i1, i2, i3, fun f f1 f2 => (i4 f f1 f2).trans (va_up_ne _ _ f2)⟩
/-! a TOKEN as the class takes it -/
theorem adv_K2 {I : Nat → Int32} {y : Int32} : g_X6_advance_K52_2 J ri rj rq I y = g_X6_advance_K52 I J ri rj rq y := by rw [g_X6_advance_K52_2_e, g_X6_advance_K52_e]
theorem adv_K3 {I : Nat → Int32} {y : Int32} : g_X6_advance_K52_3 J ri rj rq I y = g_X6_advance_K52 I J ri rj rq y := by rw [g_X6_advance_K52_3_e, g_X6_advance_K52_e]
theorem adv_L2 : ∀ (m : Nat) (I : Nat → Int32), g_X6_advance_L0_2 J ri rj rq m I = g_X6_advance_L0 J ri rj rq m I
  | 0, _ => rfl
  | m + 1, I => by
    have h : g_X6_advance_L0_2 J ri rj rq m = g_X6_advance_L0 J ri rj rq m := funext fun _ => adv_L2 m _
    rw [g_X6_advance_L0_2_e, g_X6_advance_L0_e, h]
    simp only [adv_K2, adv_K3]
theorem adv_L {n : Nat} (h3 : n ≤ 300) : ∀ (m : Nat) (I : Nat → Int32) (p s : Nat), (I 193).toInt = (n : Int) → (I 197).toInt = (p : Int) → p ≤ n → 300 - p < m → spn blk (ri 192) n p s → ∃ I', g_X6_advance_L0 J ri rj rq m I = g_X6_advance_K52 I' J ri rj rq (I' 197) ∧ (I' 197).toInt = (s : Int) ∧ ∀ f, f ≠ 197 → I' f = I f := by
  intro m
  induction m with
  | zero => intro I p s _ _ _ h; exact absurd h (Nat.not_lt_zero _)
  | succ m ih =>
    intro I p s hn hp hpn hm hs
    rw [g_X6_advance_L0_e]
    simp only [↓ap1_n, adv_K2]
    by_cases c : I 193 ≤ I 197
    · rw [if_pos c]
      have e1 := spn_z hs (Or.inl ((le_n hn hp).mp c))
      subst e1
      exact ⟨I, rfl, hp, fun _ _ => rfl⟩
    · have c1 : p < n := Nat.lt_of_not_le (fun q => c ((le_n hn hp).mpr q))
      rw [if_neg c, at_n hp]
      have go : blk (ri 192 p) → ∃ I', g_X6_advance_L0 J ri rj rq m (va_up I 197 (I 197 + 1)) = g_X6_advance_K52 I' J ri rj rq (I' 197) ∧ (I' 197).toInt = (s : Int) ∧ ∀ f, f ≠ 197 → I' f = I f := fun d => by
        obtain ⟨s1, s2⟩ := spn_s hs c1 d
        obtain ⟨I', i1, i2, i3⟩ := ih (va_up I 197 (I 197 + 1)) (p + 1) s (by rw [va_up_ne _ _ (show (193 : Nat) ≠ 197 by decide)]; exact hn) (by rw [va_up_self]; exact upN hp (by omega)) (by omega) (by omega) s2
        exact ⟨I', i1, i2, fun f hf => (i3 f hf).trans (va_up_ne _ _ hf)⟩
      by_cases d1 : ri 192 p = 32
      · rw [if_pos d1]
        exact go (Or.inl d1)
      · rw [if_neg d1]
        by_cases d2 : ri 192 p = 10
        · rw [if_pos d2]
          exact go (Or.inr d2)
        · rw [if_neg d2]
          have e1 := spn_z hs (Or.inr (fun q => by rcases q with y | y; exact d1 y; exact d2 y))
          subst e1
          exact ⟨I, rfl, hp, fun _ _ => rfl⟩
theorem adv_0 {n : Nat} (h3 : n ≤ 300) {I : Nat → Int32} {p s : Nat} (hn : (I 193).toInt = (n : Int)) (hp : (I 197).toInt = (p : Int)) (hpn : p ≤ n) (hs : spn blk (ri 192) n p s) : ∃ I', g_X6_advance I J ri rj rq = g_X6_advance_K52 I' J ri rj rq (I' 197) ∧ (I' 197).toInt = (s : Int) ∧ ∀ f, f ≠ 197 → I' f = I f := by
  rw [g_X6_advance_e]
  simp only [↓ap1_n, adv_L2]
  by_cases c : I 193 ≤ I 197
  · rw [if_pos c]
    have e1 := spn_z hs (Or.inl ((le_n hn hp).mp c))
    subst e1
    exact ⟨I, rfl, hp, fun _ _ => rfl⟩
  · have c1 : p < n := Nat.lt_of_not_le (fun q => c ((le_n hn hp).mpr q))
    rw [if_neg c, at_n hp]
    have go : blk (ri 192 p) → ∃ I', g_X6_advance_L0 J ri rj rq ((300 - (va_up I 197 (I 197 + 1) 197).toInt).toNat + 1) (va_up I 197 (I 197 + 1)) = g_X6_advance_K52 I' J ri rj rq (I' 197) ∧ (I' 197).toInt = (s : Int) ∧ ∀ f, f ≠ 197 → I' f = I f := fun d => by
      obtain ⟨s1, s2⟩ := spn_s hs c1 d
      have up := upN hp (by omega)
      rw [va_up_self]
      obtain ⟨I', i1, i2, i3⟩ := adv_L (J := J) (ri := ri) (rj := rj) (rq := rq) h3 ((300 - (I 197 + 1).toInt).toNat + 1) (va_up I 197 (I 197 + 1)) (p + 1) s (by rw [va_up_ne _ _ (show (193 : Nat) ≠ 197 by decide)]; exact hn) (by rw [va_up_self]; exact up) (by omega) (by omega) s2
      exact ⟨I', i1, i2, fun f hf => (i3 f hf).trans (va_up_ne _ _ hf)⟩
    by_cases d1 : ri 192 p = 32
    · rw [if_pos d1]
      exact go (Or.inl d1)
    · rw [if_neg d1]
      by_cases d2 : ri 192 p = 10
      · rw [if_pos d2]
        exact go (Or.inr d2)
      · rw [if_neg d2]
        have e1 := spn_z hs (Or.inr (fun q => by rcases q with y | y; exact d1 y; exact d2 y))
        subst e1
        exact ⟨I, rfl, hp, fun _ _ => rfl⟩
/-- what is behind a sign: its TOKEN and where it ends -/
def sgT (T : Nat → Int32) (n s : Nat) : Int32 := if s + 1 < n ∧ T (s + 1) = 61 then (if g_X6_signOf (T s) = 19 then 20 else if g_X6_signOf (T s) = 21 then 22 else g_X6_signOf (T s)) else g_X6_signOf (T s)
def sgE (T : Nat → Int32) (n s : Nat) : Nat := if s + 1 < n ∧ T (s + 1) = 61 ∧ (g_X6_signOf (T s) = 19 ∨ g_X6_signOf (T s) = 21) then s + 2 else s + 1
theorem takeL_v {n : Nat} (h3 : n ≤ 300) {I : Nat → Int32} {s : Nat} (hn : (I 193).toInt = (n : Int)) (hp : (I 197).toInt = ((s + 1 : Nat) : Int)) (hsn : s < n) (ht : I 194 = g_X6_signOf (ri 192 s)) : ∃ I', g_X6_takeLonger_x I J ri rj rq = (I', J, ri, rj, rq) ∧ (I' 197).toInt = (sgE (ri 192) n s : Int) ∧ I' 194 = sgT (ri 192) n s ∧ ∀ f, f ≠ 194 → f ≠ 197 → I' f = I f := by
  rw [g_X6_takeLonger_x_e]
  simp only [↓ap1_n]
  have hE : ∀ q : g_X6_signOf (ri 192 s) = 19 ∨ g_X6_signOf (ri 192 s) = 21, s + 1 < n → ri 192 (s + 1) = 61 → (s + 1 < n ∧ ri 192 (s + 1) = 61 ∧ (g_X6_signOf (ri 192 s) = 19 ∨ g_X6_signOf (ri 192 s) = 21)) := fun q a b => ⟨a, b, q⟩
  unfold sgE sgT
  by_cases c : I 193 ≤ I 197
  · have c1 := (le_n hn hp).mp c
    rw [if_pos c, if_neg (show ¬ (s + 1 < n ∧ ri 192 (s + 1) = 61 ∧ (g_X6_signOf (ri 192 s) = 19 ∨ g_X6_signOf (ri 192 s) = 21)) from fun q => by have := q.1; omega), if_neg (show ¬ (s + 1 < n ∧ ri 192 (s + 1) = 61) from fun q => by have := q.1; omega)]
    exact ⟨I, rfl, hp, ht, fun _ _ _ => rfl⟩
  · have c1 : s + 1 < n := Nat.lt_of_not_le (fun q => c ((le_n hn hp).mpr q))
    rw [if_neg c, at_n hp]
    by_cases d : ri 192 (s + 1) = 61
    · rw [if_pos d, if_pos (show s + 1 < n ∧ ri 192 (s + 1) = 61 from ⟨c1, d⟩)]
      by_cases q1 : g_X6_signOf (ri 192 s) = 19
      · rw [if_pos (ht.trans q1), if_pos q1, if_pos (hE (Or.inl q1) c1 d)]
        refine ⟨_, rfl, ?_, ?_, fun f f1 f2 => (va_up_ne _ _ f2).trans (va_up_ne _ _ f1)⟩
        · rw [va_up_self, va_up_ne _ _ (show (197 : Nat) ≠ 194 by decide)]
          exact upN hp (by omega)
        · rw [va_up_ne _ _ (show (194 : Nat) ≠ 197 by decide), va_up_self]
      · rw [if_neg (fun y => q1 (ht.symm.trans y)), if_neg q1]
        by_cases q2 : g_X6_signOf (ri 192 s) = 21
        · rw [if_pos (ht.trans q2), if_pos q2, if_pos (hE (Or.inr q2) c1 d)]
          refine ⟨_, rfl, ?_, ?_, fun f f1 f2 => (va_up_ne _ _ f2).trans (va_up_ne _ _ f1)⟩
          · rw [va_up_self, va_up_ne _ _ (show (197 : Nat) ≠ 194 by decide)]
            exact upN hp (by omega)
          · rw [va_up_ne _ _ (show (194 : Nat) ≠ 197 by decide), va_up_self]
        · rw [if_neg (fun y => q2 (ht.symm.trans y)), if_neg q2, if_neg (show ¬ (s + 1 < n ∧ ri 192 (s + 1) = 61 ∧ (g_X6_signOf (ri 192 s) = 19 ∨ g_X6_signOf (ri 192 s) = 21)) from fun y => by rcases y.2.2 with z | z; exact q1 z; exact q2 z)]
          exact ⟨I, rfl, hp, ht, fun _ _ _ => rfl⟩
    · rw [if_neg d, if_neg (show ¬ (s + 1 < n ∧ ri 192 (s + 1) = 61 ∧ (g_X6_signOf (ri 192 s) = 19 ∨ g_X6_signOf (ri 192 s) = 21)) from fun q => d q.2.1), if_neg (show ¬ (s + 1 < n ∧ ri 192 (s + 1) = 61) from fun q => d q.2)]
      exact ⟨I, rfl, hp, ht, fun _ _ _ => rfl⟩
/-- the TOKEN of the tape from p on: c is its number, s where it begins, e where it ends, v its value if it is a NUMBER -/
def TKC (T : Nat → Int32) (n p : Nat) (c : Int32) (s e : Nat) (v : Int32) : Prop := spn blk T n p s ∧ ((s = n ∧ e = n ∧ c = 33) ∨ (s < n ∧ dgt (T s) ∧ spn dgt T n s e ∧ c = 18 ∧ v = nvC T (e - s) s 0) ∨ (s < n ∧ ltr (T s) ∧ spn ltr T n s e ∧ c = wtk T s e WL 0) ∨ (s < n ∧ ¬ dgt (T s) ∧ ¬ ltr (T s) ∧ e = sgE T n s ∧ c = sgT T n s))
theorem TKC_ex (T : Nat → Int32) {n p : Nat} (hp : p ≤ n) : ∃ c s e v, TKC T n p c s e v := by
  obtain ⟨s, hs⟩ := spn_ex blk T n (n - p) p hp rfl
  have hsn := hs.2.1
  by_cases c1 : s = n
  · exact ⟨33, s, n, 0, hs, Or.inl ⟨c1, rfl, rfl⟩⟩
  · have c2 : s < n := by omega
    by_cases d : dgt (T s)
    · obtain ⟨e, he⟩ := spn_ex dgt T n (n - s) s hsn rfl
      exact ⟨18, s, e, nvC T (e - s) s 0, hs, Or.inr (Or.inl ⟨c2, d, he, rfl, rfl⟩)⟩
    · by_cases l : ltr (T s)
      · obtain ⟨e, he⟩ := spn_ex ltr T n (n - s) s hsn rfl
        exact ⟨wtk T s e WL 0, s, e, 0, hs, Or.inr (Or.inr (Or.inl ⟨c2, l, he, rfl⟩))⟩
      · exact ⟨sgT T n s, s, sgE T n s, 0, hs, Or.inr (Or.inr (Or.inr ⟨c2, d, l, rfl, rfl⟩))⟩
theorem TKC_le {T : Nat → Int32} {n p s e : Nat} {c v : Int32} (h : TKC T n p c s e v) : p ≤ s ∧ s ≤ n ∧ e ≤ n ∧ s ≤ e ∧ (s < n → s < e) := by
  obtain ⟨h0, h⟩ := h
  refine ⟨h0.1, h0.2.1, ?_⟩
  rcases h with ⟨a, b, -⟩ | ⟨a, b, c, -⟩ | ⟨a, b, c, -⟩ | ⟨a, -, -, d, -⟩
  · exact ⟨by omega, by have := h0.2.1; omega, fun q => absurd a (by omega)⟩
  · have z1 := (spn_s c a b).1
    have z2 := c.2.1
    exact ⟨z2, by omega, fun _ => z1⟩
  · have z1 := (spn_s c a b).1
    have z2 := c.2.1
    exact ⟨z2, by omega, fun _ => z1⟩
  · have z1 : s < sgE T n s ∧ sgE T n s ≤ n := by
      unfold sgE
      split
      · next q => have := q.1; omega
      · omega
    rw [d]
    exact ⟨z1.2, by omega, fun _ => z1.1⟩
theorem wtk_le {T : Nat → Int32} {s e : Nat} : ∀ (L : List (Nat × Nat)) (k : Int32), 0 ≤ k.toInt → k.toInt + L.length ≤ 18 → (wtk T s e L k).toInt ≤ 17 ∨ wtk T s e L k = 34
  | [], k, _, _ => Or.inr rfl
  | a :: L, k, h0, h => by
    have hlen : (a :: L).length = L.length + 1 := rfl
    rw [hlen] at h
    have uk : (k + Int32.ofInt 1).toInt = k.toInt + 1 := t1_inc (by omega) (by omega)
    show (@ite _ (isW T s e a.1 a.2) (Classical.propDecidable _) k (wtk T s e L (k + Int32.ofInt 1))).toInt ≤ 17 ∨ @ite _ (isW T s e a.1 a.2) (Classical.propDecidable _) k (wtk T s e L (k + Int32.ofInt 1)) = 34
    by_cases w : isW T s e a.1 a.2
    · rw [if_pos w]; exact Or.inl (by omega)
    · rw [if_neg w]; exact wtk_le L _ (by omega) (by omega)
theorem wtk_18 {T : Nat → Int32} {s e : Nat} : wtk T s e WL 0 ≠ 18 := fun q => by
  rcases wtk_le (T := T) (s := s) (e := e) WL 0 (by decide) (by decide) with h | h
  · rw [q] at h; exact absurd h (by decide)
  · rw [q] at h; exact absurd h (by decide)
theorem ite_in {c : Prop} [Decidable c] {a b : Int32} {L : List Int32} (ha : a ∈ L) (hb : b ∈ L) : (if c then a else b) ∈ L := by
  by_cases h : c
  · rw [if_pos h]; exact ha
  · rw [if_neg h]; exact hb
theorem sgO_in (x : Int32) : g_X6_signOf x ∈ [(19 : Int32), 21, 23, 24, 25, 26, 27, 28, 29, 30, 31, 32, 34] := by
  rw [g_X6_signOf_e]
  repeat (refine ite_in (by decide) ?_)
  decide
theorem sgT_18 {T : Nat → Int32} {n s : Nat} : sgT T n s ≠ 18 := by
  have h := sgO_in (T s)
  unfold sgT
  repeat' split
  · decide
  · decide
  · intro q; rw [q] at h; exact absurd h (by decide)
  · intro q; rw [q] at h; exact absurd h (by decide)
theorem sgT_33 {T : Nat → Int32} {n s : Nat} : sgT T n s ≠ 33 := by
  have h := sgO_in (T s)
  unfold sgT
  repeat' split
  · decide
  · decide
  · intro q; rw [q] at h; exact absurd h (by decide)
  · intro q; rw [q] at h; exact absurd h (by decide)
theorem adv_v {n : Nat} (h3 : n ≤ 300) {I : Nat → Int32} {p s e : Nat} {c v : Int32} (hn : (I 193).toInt = (n : Int)) (hp : (I 197).toInt = (p : Int)) (hpn : p ≤ n) (ht : TKC (ri 192) n p c s e v) : ∃ I', g_X6_advance I J ri rj rq = (I', J, ri, rj, rq) ∧ I' 194 = c ∧ (I' 195).toInt = (s : Int) ∧ (I' 197).toInt = (e : Int) ∧ (c = 18 → I' 196 = v) ∧ ∀ f, f ≠ 194 → f ≠ 195 → f ≠ 196 → f ≠ 197 → I' f = I f := by
  obtain ⟨h0, h⟩ := ht
  obtain ⟨I1, a1, a2, a3⟩ := adv_0 (J := J) (ri := ri) (rj := rj) (rq := rq) h3 hn hp hpn h0
  rw [a1, g_X6_advance_K52_e]
  simp only [↓ap1_n]
  have z7 : va_up I1 195 (I1 197) 197 = I1 197 := va_up_ne _ _ (by decide)
  have z3 : va_up I1 195 (I1 197) 193 = I 193 := (va_up_ne _ _ (by decide)).trans (a3 193 (by decide))
  have hn1 : (va_up I1 195 (I1 197) 193).toInt = (n : Int) := by rw [z3]; exact hn
  have hp1 : (va_up I1 195 (I1 197) 197).toInt = (s : Int) := by rw [z7]; exact a2
  have hs1 : (va_up I1 195 (I1 197) 195).toInt = (s : Int) := by rw [va_up_self]; exact a2
  have fr : ∀ f, f ≠ 195 → f ≠ 197 → va_up I1 195 (I1 197) f = I f := fun f f1 f2 => (va_up_ne _ _ f1).trans (a3 f f2)
  rw [z7, z3]
  generalize va_up I1 195 (I1 197) = I2 at z7 z3 hn1 hp1 hs1 fr ⊢
  rcases h with ⟨b1, b2, b3⟩ | ⟨b1, b2, b3, b4, b5⟩ | ⟨b1, b2, b3, b4⟩ | ⟨b1, b2, b3, b4, b5⟩
  · rw [if_neg (fun q => by have := (lt_n a2 hn).mp q; omega)]
    refine ⟨_, rfl, by rw [va_up_self]; exact b3.symm, ?_, ?_, fun q => by rw [b3] at q; exact absurd q (by decide), fun f f1 f2 f3 f4 => (va_up_ne _ _ f1).trans (fr f f2 f4)⟩
    · rw [va_up_ne _ _ (show (195 : Nat) ≠ 194 by decide)]; exact hs1
    · rw [va_up_ne _ _ (show (197 : Nat) ≠ 194 by decide), hp1, b1, b2]
  · rw [if_pos ((lt_n a2 hn).mpr b1), at_n a2, isD_1 b2, if_neg (show ¬ (1 : Int32) = 0 by decide)]
    obtain ⟨I', i1, i2, i3, i4, i5⟩ := takeN_v (J := J) (ri := ri) (rj := rj) (rq := rq) h3 hn1 hp1 (by omega) b3
    rw [bv_n i1]
    exact ⟨I', rfl, by rw [i3, b4], by rw [i5 195 (by decide) (by decide) (by decide)]; exact hs1, i2, fun _ => by rw [i4, b5], fun f f1 f2 f3 f4 => (i5 f f1 f3 f4).trans (fr f f2 f4)⟩
  · have nd : ¬ dgt (ri 192 s) := fun q => by unfold dgt at q; unfold ltr at b2; omega
    rw [if_pos ((lt_n a2 hn).mpr b1), at_n a2, isD_0 nd, if_pos (show (0 : Int32) = 0 from rfl), isL_1 b2, if_neg (show ¬ (1 : Int32) = 0 by decide)]
    obtain ⟨I', i1, i2, i3, i4⟩ := takeW_v (J := J) (ri := ri) (rj := rj) (rq := rq) h3 hn1 hp1 hs1 b1 b2 b3
    rw [bv_n i1]
    exact ⟨I', rfl, by rw [i3, b4], by rw [i4 195 (by decide) (by decide)]; exact hs1, i2, fun q => absurd (b4.symm.trans q) wtk_18, fun f f1 f2 f3 f4 => (i4 f f1 f4).trans (fr f f2 f4)⟩
  · rw [if_pos ((lt_n a2 hn).mpr b1), at_n a2, isD_0 b2, if_pos (show (0 : Int32) = 0 from rfl), isL_0 b3, if_pos (show (0 : Int32) = 0 from rfl)]
    have w7 : va_up I2 194 (g_X6_signOf (ri 192 s)) 197 = I2 197 := va_up_ne _ _ (by decide)
    rw [w7]
    obtain ⟨I', i1, i2, i3, i4⟩ := takeL_v (J := J) (ri := ri) (rj := rj) (rq := rq) h3 (I := va_up (va_up I2 194 (g_X6_signOf (ri 192 s))) 197 (I2 197 + 1)) (s := s) (by rw [va_up_ne _ _ (show (193 : Nat) ≠ 197 by decide), va_up_ne _ _ (show (193 : Nat) ≠ 194 by decide)]; exact hn1) (by rw [va_up_self]; exact upN hp1 (by omega)) b1 (by rw [va_up_ne _ _ (show (194 : Nat) ≠ 197 by decide), va_up_self])
    rw [bv_n i1]
    exact ⟨I', rfl, by rw [i3, b5], by rw [i4 195 (by decide) (by decide), va_up_ne _ _ (show (195 : Nat) ≠ 197 by decide), va_up_ne _ _ (show (195 : Nat) ≠ 194 by decide)]; exact hs1, by rw [i2, b4], fun q => absurd (b5.symm.trans q) sgT_18, fun f f1 f2 f3 f4 => by rw [i4 f f1 f4, va_up_ne _ _ f4, va_up_ne _ _ f1]; exact fr f f2 f4⟩
end PR0
