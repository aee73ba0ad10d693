/-! ===== pure: TOKENS of the reference ===== -/
section PR1
theorem isI_m {x a b : Int32} : g_X12_isIn_x x a b = if a ≤ x ∧ x ≤ b then 1 else 0 := by
  rw [g_X12_isIn_x_e]
  by_cases c : x < a
  · rw [if_pos c, if_neg (show ¬ (a ≤ x ∧ x ≤ b) from fun q => absurd c (Int32.not_lt.mpr q.1))]
  · rw [if_neg c]
    by_cases d : b < x
    · rw [if_pos d, if_neg (show ¬ (a ≤ x ∧ x ≤ b) from fun q => absurd d (Int32.not_lt.mpr q.2))]
    · rw [if_neg d, if_pos (show a ≤ x ∧ x ≤ b from ⟨Int32.not_lt.mp c, Int32.not_lt.mp d⟩)]
theorem isI_1 {x a b : Int32} (h : a.toInt ≤ x.toInt ∧ x.toInt ≤ b.toInt) : g_X12_isIn_x x a b = 1 := by
  rw [isI_m, if_pos (show a ≤ x ∧ x ≤ b from ⟨Int32.le_iff_toInt_le.mpr h.1, Int32.le_iff_toInt_le.mpr h.2⟩)]
theorem isI_0 {x a b : Int32} (h : ¬ (a.toInt ≤ x.toInt ∧ x.toInt ≤ b.toInt)) : g_X12_isIn_x x a b = 0 := by
  rw [isI_m, if_neg (show ¬ (a ≤ x ∧ x ≤ b) from fun q => h ⟨Int32.le_iff_toInt_le.mp q.1, Int32.le_iff_toInt_le.mp q.2⟩)]
theorem mD_1 {x : Int32} (h : dgt x) : g_X12_isDigit_x x = 1 := by
  rw [g_X12_isDigit_x_e]
  try simp only [↓ap1_n]
  exact isI_1 h
theorem mD_0 {x : Int32} (h : ¬ dgt x) : g_X12_isDigit_x x = 0 := by
  rw [g_X12_isDigit_x_e]
  try simp only [↓ap1_n]
  exact isI_0 h
theorem mL_1 {x : Int32} (h : ltr x) : g_X12_isLetter_x x = 1 := by
  rw [g_X12_isLetter_x_e]
  try simp only [↓ap1_n]
  rcases h with y | y
  · rw [isI_0 (show ¬ ((97 : Int32).toInt ≤ x.toInt ∧ x.toInt ≤ (122 : Int32).toInt) from fun q => by have z := q.1; have k : (97 : Int32).toInt = 97 := by decide
                                                                                                      omega), if_pos (show (0 : Int32) = 0 from rfl), isI_1 (show (65 : Int32).toInt ≤ x.toInt ∧ x.toInt ≤ (90 : Int32).toInt from y), if_neg (show ¬ (1 : Int32) = 0 by decide)]
  · rw [isI_1 (show (97 : Int32).toInt ≤ x.toInt ∧ x.toInt ≤ (122 : Int32).toInt from y), if_neg (show ¬ (1 : Int32) = 0 by decide)]
theorem mL_0 {x : Int32} (h : ¬ ltr x) : g_X12_isLetter_x x = 0 := by
  rw [g_X12_isLetter_x_e]
  try simp only [↓ap1_n]
  rw [isI_0 (show ¬ ((97 : Int32).toInt ≤ x.toInt ∧ x.toInt ≤ (122 : Int32).toInt) from fun q => h (Or.inr q)), if_pos (show (0 : Int32) = 0 from rfl), isI_0 (show ¬ ((65 : Int32).toInt ≤ x.toInt ∧ x.toInt ≤ (90 : Int32).toInt) from fun q => h (Or.inl q)), if_pos (show (0 : Int32) = 0 from rfl)]
variable {J : Nat → Int64} {ri : Nat → Nat → Int32} {rj : Nat → Nat → Int64} {rq : Nat → Nat → Option Nat}
/-- the byte at p, -1 behind the last -/
def seeN (T : Nat → Int32) (n p : Nat) : Int32 := if n ≤ p then -1 else T p
theorem see_v {I : Nat → Int32} {a : Int32} {n p : Nat} (hn : (I 388).toInt = (n : Int)) (ha : a.toInt = (p : Int)) : g_X12_see_x a I J ri rj rq = (seeN (ri 387) n p, I, J, ri, rj, rq) := by
  rw [g_X12_see_x_e]
  try simp only [↓ap1_n]
  unfold seeN
  by_cases c : I 388 ≤ a
  · rw [if_pos c, if_pos ((le_n hn ha).mp c)]
  · rw [if_neg c, if_neg (fun q => c ((le_n hn ha).mpr q)), at_n ha]
theorem see_in {T : Nat → Int32} {n p : Nat} (h : p < n) : seeN T n p = T p := if_neg (by omega)
theorem see_out {T : Nat → Int32} {n p : Nat} (h : n ≤ p) : seeN T n p = -1 := if_pos h
/-- the NUMBER of the digits from p on, as the reference counts it -/
def nvR (T : Nat → Int32) : Nat → Nat → Int32 → Int32
  | 0, _, v => v
  | k + 1, p, v => nvR T k (p + 1) (if (100000 : Int32) ≤ v then v else 10 * v + T p - 48)
theorem numR_L {n : Nat} (h3 : n ≤ 300) : ∀ (m : Nat) (I : Nat → Int32) (p e : Nat), (I 388).toInt = (n : Int) → (I 391).toInt = (p : Int) → p ≤ n → 300 - p < m → spn dgt (ri 387) n p e → ∃ I', g_X12_nextToken_x_L85 J ri rj rq m I = (I', J, ri, rj, rq) ∧ (I' 391).toInt = (e : Int) ∧ I' 394 = nvR (ri 387) (e - p) p (I 394) ∧ ∀ f, f ≠ 391 → f ≠ 394 → I' f = I f := by
  intro m
  induction m with
  | zero => intro I p e _ _ _ h; exact absurd h (Nat.not_lt_zero _)
  | succ m ih =>
    intro I p e hn hp hpn hm hs
    rw [g_X12_nextToken_x_L85_e]
    try simp only [↓ap1_n]
    rw [bn_n (see_v hn hp)]
    try simp only [↓ap1_n]
    by_cases c : n ≤ p
    · have nd : ¬ dgt (-1 : Int32) := by unfold dgt; decide
      rw [see_out c, mD_0 nd, if_pos (show (0 : Int32) = 0 from rfl)]
      have e1 := spn_z hs (Or.inl c)
      subst e1
      exact ⟨I, rfl, hp, by rw [Nat.sub_self]; rfl, fun _ _ _ => rfl⟩
    · have c1 : p < n := by omega
      rw [see_in c1]
      by_cases d : dgt (ri 387 p)
      · rw [mD_1 d, if_neg (show ¬ (1 : Int32) = 0 by decide)]
        obtain ⟨s1, s2⟩ := spn_s hs c1 d
        have hk : e - p = (e - (p + 1)) + 1 := by omega
        by_cases w : (100000 : Int32) ≤ I 394
        · rw [if_pos w]
          obtain ⟨I', i1, i2, i3, i4⟩ := ih (va_up I 391 (I 391 + 1)) (p + 1) e (by rw [va_up_ne _ _ (show (388 : Nat) ≠ 391 by decide)]; exact hn) (by rw [va_up_self]; exact upN hp (by omega)) (by omega) (by omega) s2
          refine ⟨I', i1, i2, ?_, fun f f1 f2 => (i4 f f1 f2).trans (va_up_ne _ _ f1)⟩
          rw [i3, va_up_ne _ _ (show (394 : Nat) ≠ 391 by decide), hk]
          show _ = nvR (ri 387) (e - (p + 1)) (p + 1) (if (100000 : Int32) ≤ I 394 then I 394 else 10 * I 394 + ri 387 p - 48)
          rw [if_pos w]
        · rw [if_neg w, bn_n (see_v hn hp)]
          try simp only [↓ap1_n]
          rw [see_in c1]
          have w7 : va_up I 394 (10 * I 394 + ri 387 p - 48) 391 = I 391 := va_up_ne _ _ (by decide)
          rw [w7]
          obtain ⟨I', i1, i2, i3, i4⟩ := ih (va_up (va_up I 394 (10 * I 394 + ri 387 p - 48)) 391 (I 391 + 1)) (p + 1) e (by rw [va_up_ne _ _ (show (388 : Nat) ≠ 391 by decide), va_up_ne _ _ (show (388 : Nat) ≠ 394 by decide)]; exact hn) (by rw [va_up_self]; exact upN hp (by omega)) (by omega) (by omega) s2
          refine ⟨I', i1, i2, ?_, fun f f1 f2 => by rw [i4 f f1 f2, va_up_ne _ _ f1, va_up_ne _ _ f2]⟩
          rw [i3, va_up_ne _ _ (show (394 : Nat) ≠ 391 by decide), va_up_self, hk]
          show _ = nvR (ri 387) (e - (p + 1)) (p + 1) (if (100000 : Int32) ≤ I 394 then I 394 else 10 * I 394 + ri 387 p - 48)
          rw [if_neg w]
      · rw [mD_0 d, if_pos (show (0 : Int32) = 0 from rfl)]
        have e1 := spn_z hs (Or.inr d)
        subst e1
        exact ⟨I, rfl, hp, by rw [Nat.sub_self]; rfl, fun _ _ _ => rfl⟩
/-- both count alike as far as 9999 -/
def nvE (v w : Int32) : Prop := (0 ≤ w.toInt ∧ w.toInt ≤ 9999 ∧ v = w) ∨ (10000 ≤ w.toInt ∧ w.toInt ≤ 999999 ∧ v.toInt = 10000)
theorem nv_eq {T : Nat → Int32} : ∀ (k p : Nat) (v w : Int32), (∀ j, p ≤ j → j < p + k → dgt (T j)) → nvE v w → nvE (nvC T k p v) (nvR T k p w)
  | 0, _, _, _, _, h => h
  | k + 1, p, v, w, hT, h => by
    refine nv_eq k (p + 1) _ _ (fun j h1 h2 => hT j (by omega) (by omega)) ?_
    obtain ⟨t0, t1⟩ := hT p (Nat.le_refl _) (by omega)
    have k1 : (10 : Int32).toInt = 10 := by decide
    have k2 : (48 : Int32).toInt = 48 := by decide
    have k3 : (100000 : Int32).toInt = 100000 := by decide
    have k4 : (10000 : Int32).toInt = 10000 := by decide
    rcases h with ⟨w0, w1, e⟩ | ⟨w0, w1, e⟩
    · subst e
      have e1 : (v * 10 + T p - 48).toInt = v.toInt * 10 + (T p).toInt - 48 := i_sub (i_add (i_mul rfl k1 (by omega) (by omega)) rfl (by omega) (by omega)) k2 (by omega) (by omega)
      have e2 : (10 * v + T p - 48).toInt = 10 * v.toInt + (T p).toInt - 48 := i_sub (i_add (i_mul k1 rfl (by omega) (by omega)) rfl (by omega) (by omega)) k2 (by omega) (by omega)
      rw [if_neg (show ¬ (100000 : Int32) ≤ v from fun q => by have q1 := Int32.le_iff_toInt_le.mp q; omega)]
      by_cases c : v * 10 + T p - 48 < 10000
      · have c1 := Int32.lt_iff_toInt_lt.mp c
        rw [if_pos c]
        exact Or.inl ⟨by omega, by omega, Int32.toInt_inj.mp (by omega)⟩
      · have c1 := Int32.le_iff_toInt_le.mp (Int32.not_lt.mp c)
        rw [if_neg c]
        exact Or.inr ⟨by omega, by omega, k4⟩
    · have e1 : (v * 10 + T p - 48).toInt = v.toInt * 10 + (T p).toInt - 48 := i_sub (i_add (i_mul rfl k1 (by omega) (by omega)) rfl (by omega) (by omega)) k2 (by omega) (by omega)
      rw [if_neg (show ¬ v * 10 + T p - 48 < 10000 from fun q => by have q1 := Int32.lt_iff_toInt_lt.mp q; omega)]
      by_cases c : (100000 : Int32) ≤ w
      · have c1 := Int32.le_iff_toInt_le.mp c
        rw [if_pos c]
        exact Or.inr ⟨by omega, by omega, k4⟩
      · have c1 := Int32.lt_iff_toInt_lt.mp (Int32.not_le.mp c)
        have e2 : (10 * w + T p - 48).toInt = 10 * w.toInt + (T p).toInt - 48 := i_sub (i_add (i_mul k1 rfl (by omega) (by omega)) rfl (by omega) (by omega)) k2 (by omega) (by omega)
        rw [if_neg c]
        exact Or.inr ⟨by omega, by omega, k4⟩
/-! words as one number -/
def pkN (T : Nat → Int32) (s : Nat) : Nat → Nat
  | 0 => 0
  | l + 1 => pkN T s l * 256 + (T (s + l)).toNatClampNeg
/-- bytes that are no 0 -/
def byt (T : Nat → Int32) (s l : Nat) : Prop := ∀ j, j < l → 1 ≤ (T (s + j)).toInt ∧ (T (s + j)).toInt ≤ 255
theorem pkN_lt {T : Nat → Int32} {s : Nat} : ∀ (l : Nat), byt T s l → pkN T s l < 256 ^ l
  | 0, _ => by show 0 < 1; decide
  | l + 1, h => by
    have h1 := pkN_lt l (fun j hj => h j (by omega))
    have h2 := h l (by omega)
    have z := clampE (T (s + l))
    have e : 256 ^ (l + 1) = 256 ^ l * 256 := Nat.pow_succ _ _
    show pkN T s l * 256 + (T (s + l)).toNatClampNeg < 256 ^ (l + 1)
    rw [e]
    omega
theorem pkN_pos {T : Nat → Int32} {s l : Nat} (h : byt T s (l + 1)) : 0 < pkN T s (l + 1) := by
  have h2 := h l (by omega)
  have z := clampE (T (s + l))
  show 0 < pkN T s l * 256 + (T (s + l)).toNatClampNeg
  omega
theorem pkN_inj {T U : Nat → Int32} {s o : Nat} : ∀ (l k : Nat), byt T s l → byt U o k → pkN T s l = pkN U o k → l = k ∧ ∀ j, j < l → T (s + j) = U (o + j)
  | 0, 0, _, _, _ => ⟨rfl, fun j hj => absurd hj (Nat.not_lt_zero _)⟩
  | 0, k + 1, _, hU, h => by have h1 := pkN_pos hU; rw [← h] at h1; exact absurd h1 (Nat.lt_irrefl _)
  | l + 1, 0, hT, _, h => by have h1 := pkN_pos hT; rw [h] at h1; exact absurd h1 (Nat.lt_irrefl _)
  | l + 1, k + 1, hT, hU, h => by
    have h' : pkN T s l * 256 + (T (s + l)).toNatClampNeg = pkN U o k * 256 + (U (o + k)).toNatClampNeg := h
    have a := hT l (by omega)
    have b := hU k (by omega)
    have za := clampE (T (s + l))
    have zb := clampE (U (o + k))
    obtain ⟨e, f⟩ := pkN_inj l k (fun j hj => hT j (by omega)) (fun j hj => hU j (by omega)) (by omega)
    subst e
    refine ⟨rfl, fun j hj => ?_⟩
    by_cases q : j = l
    · subst q
      exact Int32.toInt_inj.mp (by omega)
    · exact f j (by omega)
theorem pkN_cg {T U : Nat → Int32} {s o : Nat} : ∀ (l : Nat), (∀ j, j < l → T (s + j) = U (o + j)) → pkN T s l = pkN U o l
  | 0, _ => rfl
  | l + 1, h => by
    show pkN T s l * 256 + (T (s + l)).toNatClampNeg = pkN U o l * 256 + (U (o + l)).toNatClampNeg
    rw [pkN_cg l (fun j hj => h j (by omega)), h l (by omega)]
theorem ltr_byt {T : Nat → Int32} {n s e : Nat} (h : spn ltr T n s e) (l : Nat) (hl : s + l ≤ e) : byt T s l := fun j hj => by
  have := h.2.2.1 (s + j) (by omega) (by omega)
  unfold ltr at this
  omega
theorem pk_step {T : Nat → Int32} {s l : Nat} (hl : l < 7) (h : byt T s (l + 1)) : (lN (pkN T s l) <<< ((8 : Int32).toInt64 &&& 63)) ||| (T (s + l)).toInt64 = lN (pkN T s (l + 1)) := by
  have h2 := h l (by omega)
  have z := clampE (T (s + l))
  have hp := pkN_lt l (fun j hj => h j (by omega) : byt T s l)
  have hp2 : 256 ^ l ≤ 256 ^ 6 := Nat.pow_le_pow_right (by decide) (by omega)
  have hp3 : 256 ^ 6 = 281474976710656 := by decide
  have e1 : lN (pkN T s l) <<< ((8 : Int32).toInt64 &&& 63) = lN (pkN T s l * 2 ^ 8) := wb_shl (pkN T s l) (k := 8) (by decide)
  have e2 : (T (s + l)).toInt64 = lN (T (s + l)).toNatClampNeg := by
    have e3 : T (s + l) = nI (T (s + l)).toNatClampNeg := toN (by omega)
    have e4 := nI_l (n := (T (s + l)).toNatClampNeg) (by omega)
    rw [← e3] at e4
    exact e4
  rw [e1, e2]
  exact g_or (k := 8) (p := 2 ^ 8) rfl (by omega) (by omega)
theorem cmpN (x y : Int64) : lg_cmp x y = 0 ↔ x = y := by
  unfold lg_cmp
  by_cases a : x > y
  · rw [if_pos a]
    exact ⟨fun h => absurd h (by decide), fun h => by rw [h] at a; exact absurd (Int64.lt_iff_toInt_lt.mp a) (Int.lt_irrefl _)⟩
  · by_cases b : x = y
    · rw [if_neg a, if_pos b]; exact ⟨fun _ => b, fun _ => rfl⟩
    · rw [if_neg a, if_neg b]; exact ⟨fun h => absurd h (by decide), fun h => absurd h b⟩
/-- the word of the reference from s to e -/
def wdN (T : Nat → Int32) (s e : Nat) : Nat := if e - s ≤ 7 then pkN T s (e - s) else 0
theorem wordR_L {n : Nat} (h3 : n ≤ 300) : ∀ (m : Nat) (I : Nat → Int32) (J : Nat → Int64) (p s e : Nat), (I 388).toInt = (n : Int) → (I 391).toInt = (p : Int) → (I 392).toInt = (s : Int) → s ≤ p → p ≤ n → 300 - p < m → spn ltr (ri 387) n s e → p ≤ e → J 395 = lN (pkN (ri 387) s (if p - s ≤ 7 then p - s else 7)) → ∃ I' J', g_X12_nextToken_x_L161 ri rj rq m I J = (I', J', ri, rj, rq) ∧ (I' 391).toInt = (e : Int) ∧ J' 395 = lN (wdN (ri 387) s e) ∧ (∀ f, f ≠ 391 → I' f = I f) ∧ ∀ f, f ≠ 395 → J' f = J f := by
  intro m
  induction m with
  | zero => intro I J p s e _ _ _ _ _ h; exact absurd h (Nat.not_lt_zero _)
  | succ m ih =>
    intro I J p s e hn hp hsI hsp hpn hm hs hpe hJ
    have k7 : (7 : Int32).toInt = ((7 : Nat) : Int) := by decide
    have sb : (I 391 - I 392).toInt = ((p - s : Nat) : Int) := by
      have := i_sub (x := I 391) (y := I 392) rfl rfl (by omega) (by omega)
      omega
    rw [g_X12_nextToken_x_L161_e]
    try simp only [↓ap1_n]
    rw [bn_n (see_v hn hp)]
    try simp only [↓ap1_n]
    by_cases c : p = e
    · have nl : ¬ ltr (seeN (ri 387) n p) := by
        by_cases d : n ≤ p
        · rw [see_out d]; unfold ltr; decide
        · rw [see_in (by omega), c]
          exact hs.2.2.2 (by omega)
      rw [mL_0 nl, if_pos (show (0 : Int32) = 0 from rfl)]
      unfold wdN
      by_cases w : I 391 - I 392 ≤ 7
      · have w1 := (le_n sb k7).mp w
        rw [if_pos w]
        rw [if_pos w1] at hJ
        refine ⟨I, J, rfl, by rw [← c]; exact hp, ?_, fun _ _ => rfl, fun _ _ => rfl⟩
        rw [← c, if_pos w1]
        exact hJ
      · have w1 : ¬ p - s ≤ 7 := fun q => w ((le_n sb k7).mpr q)
        rw [if_neg w]
        refine ⟨I, va_up J 395 0, rfl, by rw [← c]; exact hp, ?_, fun _ _ => rfl, fun f hf => va_up_ne _ _ hf⟩
        rw [← c, if_neg w1, va_up_self]
        rfl
    · have c1 : p < e := by omega
      have c2 : p < n := by have := hs.2.1; omega
      have hl : ltr (ri 387 p) := hs.2.2.1 p hsp c1
      rw [see_in c2, mL_1 hl, if_neg (show ¬ (1 : Int32) = 0 by decide)]
      by_cases w : (7 : Int32) ≤ I 391 - I 392
      · have w1 := (le_n k7 sb).mp w
        rw [if_pos w]
        obtain ⟨I', J', i1, i2, i3, i4, i5⟩ := ih (va_up I 391 (I 391 + 1)) J (p + 1) s e (by rw [va_up_ne _ _ (show (388 : Nat) ≠ 391 by decide)]; exact hn) (by rw [va_up_self]; exact upN hp (by omega)) (by rw [va_up_ne _ _ (show (392 : Nat) ≠ 391 by decide)]; exact hsI) (by omega) (by omega) (by omega) hs (by omega) (by
          rw [if_neg (show ¬ p + 1 - s ≤ 7 by omega), hJ]
          by_cases q : p - s ≤ 7
          · rw [if_pos q, show p - s = 7 by omega]
          · rw [if_neg q])
        exact ⟨I', J', i1, i2, i3, fun f hf => (i4 f hf).trans (va_up_ne _ _ hf), i5⟩
      · have w1 : ¬ 7 ≤ p - s := fun q => w ((le_n k7 sb).mpr q)
        rw [if_neg w, bn_n (see_v hn hp)]
        try simp only [↓ap1_n]
        rw [see_in c2]
        rw [if_pos (show p - s ≤ 7 by omega)] at hJ
        obtain ⟨I', J', i1, i2, i3, i4, i5⟩ := ih (va_up I 391 (I 391 + 1)) (va_up J 395 (J 395 <<< ((8 : Int32).toInt64 &&& 63) ||| (ri 387 p).toInt64)) (p + 1) s e (by rw [va_up_ne _ _ (show (388 : Nat) ≠ 391 by decide)]; exact hn) (by rw [va_up_self]; exact upN hp (by omega)) (by rw [va_up_ne _ _ (show (392 : Nat) ≠ 391 by decide)]; exact hsI) (by omega) (by omega) (by omega) hs (by omega) (by
          have ps := pk_step (T := ri 387) (s := s) (l := p - s) (by omega) (ltr_byt hs _ (by omega))
          rw [show s + (p - s) = p by omega] at ps
          rw [va_up_self, hJ, if_pos (show p + 1 - s ≤ 7 by omega), show p + 1 - s = p - s + 1 by omega]
          exact ps)
        exact ⟨I', J', i1, i2, i3, fun f hf => (i4 f hf).trans (va_up_ne _ _ hf), fun f hf => (i5 f hf).trans (va_up_ne _ _ hf)⟩
end PR1
