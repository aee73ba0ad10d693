/-! ===== pure: what waits in the class, what is piled in the reference ===== -/
section PR6
/-- the class's sign of the reference's -/
def mpc (x : Int32) : Int32 := if x = 40 then 29 else if x = 2 then 35 else if x = 3 then 25 else if x = 4 then 26 else if x = 5 then 27 else 28
/-- a code of the class in the reference's two numbers -/
def en (x : Int32) : Int32 × Int32 := if 0 ≤ x then (0, x) else if x = -35 then (2, 0) else if x = -25 then (3, 0) else if x = -26 then (4, 0) else if x = -27 then (5, 0) else if x = -28 then (6, 0) else if x = -19 then (10, 0) else if x = -20 then (11, 0) else if x = -21 then (12, 0) else if x = -22 then (13, 0) else if x = -23 then (14, 0) else if x = -24 then (15, 0) else if x = -11 then (20, 0) else if x = -10 then (21, 0) else if x = -9 then (22, 0) else (1, -12 - x)
theorem en_op {x : Int32} (h : x = 3 ∨ x = 4 ∨ x = 5 ∨ x = 6) : en (-mpc x) = (x, 0) := by
  rcases h with h | h | h | h <;> subst h <;> decide
theorem en_35 : en (-35) = (2, 0) := by decide
theorem popE_c {a x : Int32} {L : List Int32} (h : ¬ g_X4_rank x < a) : popE a (x :: L) = -x :: popE a L := if_neg h
theorem popE_s {a x : Int32} {L : List Int32} (h : g_X4_rank x < a) : popE a (x :: L) = [] := if_pos h
theorem popF_c {a x : Int32} {L : List Int32} (h : g_X12_isIn_x x a 6 ≠ 0) : popF a (x :: L) = (x, 0) :: popF a L := if_neg h
theorem popF_s {a x : Int32} {L : List Int32} (h : g_X12_isIn_x x a 6 = 0) : popF a (x :: L) = [] := if_pos h
/-- the pile's order: 1 below * and /, 2 below + and -, 0 else -/
def okP : Nat → List Int32 → Prop
  | _, [] => True
  | q, x :: L => (x = 40 ∧ okP 0 L) ∨ (x = 2 ∧ q = 0 ∧ okP 0 L) ∨ ((x = 5 ∨ x = 6) ∧ q = 0 ∧ okP 1 L) ∨ ((x = 3 ∨ x = 4) ∧ q ≤ 1 ∧ okP 2 L)
def cn40 : List Int32 → Nat
  | [] => 0
  | x :: L => (if x = 40 then 1 else 0) + cn40 L
def cn2 : List Int32 → Nat
  | [] => 0
  | x :: L => (if x = 2 then 1 else 0) + cn2 L
/-- no - of one ONE at the top -/
def no2 : List Int32 → Prop
  | [] => True
  | x :: _ => x ≠ 2
theorem okP_len : ∀ (P : List Int32) (q : Nat), q ≤ 2 → okP q P → P.length + q ≤ 3 * cn40 P + cn2 P + 2
  | [], q, hq, _ => by show 0 + q ≤ 0 + 0 + 2; omega
  | x :: P, q, hq, h => by
    show P.length + 1 + q ≤ 3 * ((if x = 40 then 1 else 0) + cn40 P) + ((if x = 2 then 1 else 0) + cn2 P) + 2
    rcases h with ⟨a, b⟩ | ⟨a, a2, b⟩ | ⟨a, a2, b⟩ | ⟨a, a2, b⟩
    · have := okP_len P 0 (by decide) b
      rw [if_pos a]; omega
    · have := okP_len P 0 (by decide) b
      rw [if_pos a]; omega
    · have := okP_len P 1 (by decide) b
      omega
    · have := okP_len P 2 (by decide) b
      omega
theorem mp_40 : mpc 40 = 29 := by decide
theorem mp_2 : mpc 2 = 35 := by decide
theorem rk_op {x : Int32} (h : x = 3 ∨ x = 4 ∨ x = 5 ∨ x = 6) : mpc x ≠ 11 ∧ mpc x ≠ 35 ∧ ¬ g_X4_rank (mpc x) < 5 ∧ ¬ g_X4_rank (mpc x) < 1 ∧ g_X12_isIn_x x 3 6 ≠ 0 := by
  rcases h with h | h | h | h <;> subst h <;> decide
theorem rk_hi {x : Int32} (h : x = 5 ∨ x = 6) : ¬ g_X4_rank (mpc x) < 6 ∧ g_X12_isIn_x x 5 6 ≠ 0 := by
  rcases h with h | h <;> subst h <;> decide
theorem rk_lo {x : Int32} (h : x = 3 ∨ x = 4) : g_X4_rank (mpc x) < 6 ∧ g_X12_isIn_x x 5 6 = 0 := by
  rcases h with h | h <;> subst h <;> decide
/-- B stops a settle of a sum -/
def stB (B : List Int32) : Prop := match B with
  | [] => True
  | x :: _ => g_X4_rank x < 5 ∧ g_X4_rank x < 6
theorem popR_c {a x : Int32} {L : List Int32} (h : ¬ g_X4_rank x < a) : popR a (x :: L) = popR a L := if_neg h
theorem popR_s {a x : Int32} {L : List Int32} (h : g_X4_rank x < a) : popR a (x :: L) = x :: L := if_pos h
theorem popN_c {a x : Int32} {L : List Int32} (h : ¬ g_X4_rank x < a) : popN a (x :: L) = (if x = 11 ∨ x = 35 then 1 else 0) + popN a L := if_neg h
theorem popN_s {a x : Int32} {L : List Int32} (h : g_X4_rank x < a) : popN a (x :: L) = 0 := if_pos h
theorem popM_c {a x : Int32} {L : List Int32} (h : g_X12_isIn_x x a 6 ≠ 0) : popM a (x :: L) = popM a L := if_neg h
theorem popM_s {a x : Int32} {L : List Int32} (h : g_X12_isIn_x x a 6 = 0) : popM a (x :: L) = x :: L := if_pos h
theorem c40_n {x : Int32} {L : List Int32} (h : x ≠ 40) : cn40 (x :: L) = cn40 L := by show (if x = 40 then 1 else 0) + cn40 L = _; rw [if_neg h, Nat.zero_add]
theorem c2_n {x : Int32} {L : List Int32} (h : x ≠ 2) : cn2 (x :: L) = cn2 L := by show (if x = 2 then 1 else 0) + cn2 L = _; rw [if_neg h, Nat.zero_add]
theorem opr_n {x : Int32} (h : x = 3 ∨ x = 4 ∨ x = 5 ∨ x = 6) : x ≠ 40 ∧ x ≠ 2 := by
  rcases h with h | h | h | h <;> subst h <;> decide
/-- + and - settle -/
theorem pop_5 {B : List Int32} (hB : stB B) : ∀ (P : List Int32) (q : Nat), okP q P → (q ≠ 0 ∨ no2 P) → popR 5 (P.map mpc ++ B) = (popM 3 P).map mpc ++ B ∧ popN 5 (P.map mpc ++ B) = 0 ∧ okP 2 (popM 3 P) ∧ no2 (popM 3 P) ∧ cn40 (popM 3 P) = cn40 P ∧ cn2 (popM 3 P) = cn2 P ∧ (popE 5 (P.map mpc ++ B)).map en = popF 3 P
  | [], q, _, _ => by
    refine ⟨?_, ?_, trivial, trivial, rfl, rfl, ?_⟩
    · show popR 5 B = B
      cases B with
      | nil => rfl
      | cons x B => exact popR_s hB.1
    · show popN 5 B = 0
      cases B with
      | nil => rfl
      | cons x B => exact popN_s hB.1
    · show (popE 5 B).map en = []
      cases B with
      | nil => rfl
      | cons x B => rw [popE_s hB.1]; rfl
  | x :: P, q, h, hq => by
    have op : ∀ q2 : Nat, q2 ≠ 0 → (x = 3 ∨ x = 4 ∨ x = 5 ∨ x = 6) → okP q2 P → popR 5 ((x :: P).map mpc ++ B) = (popM 3 (x :: P)).map mpc ++ B ∧ popN 5 ((x :: P).map mpc ++ B) = 0 ∧ okP 2 (popM 3 (x :: P)) ∧ no2 (popM 3 (x :: P)) ∧ cn40 (popM 3 (x :: P)) = cn40 (x :: P) ∧ cn2 (popM 3 (x :: P)) = cn2 (x :: P) ∧ (popE 5 ((x :: P).map mpc ++ B)).map en = popF 3 (x :: P) := fun q2 h2 hx ho => by
      obtain ⟨r1, r2, r3, r4, r5⟩ := rk_op hx
      obtain ⟨i1, i2, i3, i4, i5, i6, i7⟩ := pop_5 hB P q2 ho (Or.inl h2)
      have e : (x :: P).map mpc ++ B = mpc x :: (P.map mpc ++ B) := rfl
      rw [e, popR_c r3, popN_c r3, popM_c r5, if_neg (show ¬ (mpc x = 11 ∨ mpc x = 35) from fun y => by rcases y with z | z; exact r1 z; exact r2 z), c40_n (opr_n hx).1, c2_n (opr_n hx).2, Nat.zero_add, popE_c r3, popF_c r5, List.map_cons, en_op hx]
      exact ⟨i1, i2, i3, i4, i5, i6, by rw [i7]⟩
    rcases h with ⟨a, b⟩ | ⟨a, a2, b⟩ | ⟨a, a2, b⟩ | ⟨a, a2, b⟩
    · have e : (x :: P).map mpc ++ B = mpc x :: (P.map mpc ++ B) := rfl
      have r : g_X4_rank (mpc x) < 5 := by rw [a]; decide
      have z : g_X12_isIn_x x 3 6 = 0 := by rw [a]; decide
      rw [e, popR_s r, popN_s r, popM_s z, popE_s r, popF_s z]
      exact ⟨rfl, rfl, Or.inl ⟨a, b⟩, by show x ≠ 2; rw [a]; decide, rfl, rfl, rfl⟩
    · rcases hq with y | y
      · exact absurd a2 y
      · exact absurd a y
    · exact op 1 (by decide) (by rcases a with z | z; exact Or.inr (Or.inr (Or.inl z)); exact Or.inr (Or.inr (Or.inr z))) b
    · exact op 2 (by decide) (by rcases a with z | z; exact Or.inl z; exact Or.inr (Or.inl z)) b
/-- * and / settle -/
theorem pop_6 {B : List Int32} (hB : stB B) : ∀ (P : List Int32) (q : Nat), okP q P → (q ≠ 0 ∨ no2 P) → popR 6 (P.map mpc ++ B) = (popM 5 P).map mpc ++ B ∧ popN 6 (P.map mpc ++ B) = 0 ∧ okP 1 (popM 5 P) ∧ no2 (popM 5 P) ∧ cn40 (popM 5 P) = cn40 P ∧ cn2 (popM 5 P) = cn2 P ∧ (popE 6 (P.map mpc ++ B)).map en = popF 5 P
  | [], q, _, _ => by
    refine ⟨?_, ?_, trivial, trivial, rfl, rfl, ?_⟩
    · show popR 6 B = B
      cases B with
      | nil => rfl
      | cons x B => exact popR_s hB.2
    · show popN 6 B = 0
      cases B with
      | nil => rfl
      | cons x B => exact popN_s hB.2
    · show (popE 6 B).map en = []
      cases B with
      | nil => rfl
      | cons x B => rw [popE_s hB.2]; rfl
  | x :: P, q, h, hq => by
    have e : (x :: P).map mpc ++ B = mpc x :: (P.map mpc ++ B) := rfl
    rcases h with ⟨a, b⟩ | ⟨a, a2, b⟩ | ⟨a, a2, b⟩ | ⟨a, a2, b⟩
    · have r : g_X4_rank (mpc x) < 6 := by rw [a]; decide
      have z : g_X12_isIn_x x 5 6 = 0 := by rw [a]; decide
      rw [e, popR_s r, popN_s r, popM_s z, popE_s r, popF_s z]
      exact ⟨rfl, rfl, Or.inl ⟨a, b⟩, by show x ≠ 2; rw [a]; decide, rfl, rfl, rfl⟩
    · rcases hq with y | y
      · exact absurd a2 y
      · exact absurd a y
    · have hx : x = 3 ∨ x = 4 ∨ x = 5 ∨ x = 6 := by rcases a with z | z; exact Or.inr (Or.inr (Or.inl z)); exact Or.inr (Or.inr (Or.inr z))
      obtain ⟨r1, r2, _, _, _⟩ := rk_op hx
      obtain ⟨r3, r5⟩ := rk_hi a
      obtain ⟨i1, i2, i3, i4, i5, i6, i7⟩ := pop_6 hB P 1 b (Or.inl (by decide))
      rw [e, popR_c r3, popN_c r3, popM_c r5, if_neg (show ¬ (mpc x = 11 ∨ mpc x = 35) from fun y => by rcases y with z | z; exact r1 z; exact r2 z), c40_n (opr_n hx).1, c2_n (opr_n hx).2, Nat.zero_add, popE_c r3, popF_c r5, List.map_cons, en_op hx]
      exact ⟨i1, i2, i3, i4, i5, i6, by rw [i7]⟩
    · have hx : x = 3 ∨ x = 4 ∨ x = 5 ∨ x = 6 := by rcases a with z | z; exact Or.inl z; exact Or.inr (Or.inl z)
      obtain ⟨r3, r5⟩ := rk_lo a
      rw [e, popR_s r3, popN_s r3, popM_s r5, popE_s r3, popF_s r5]
      exact ⟨rfl, rfl, Or.inr (Or.inr (Or.inr ⟨a, by decide, b⟩)), (opr_n hx).2, rfl, rfl, rfl⟩
/-- ) settles as far as its ( -/
theorem pop_1 {B : List Int32} : ∀ (P : List Int32) (q : Nat), okP q P → (q ≠ 0 ∨ no2 P) → (40 : Int32) ∈ P → ∃ P2, popM 3 P = 40 :: P2 ∧ popR 1 (P.map mpc ++ B) = 29 :: (P2.map mpc ++ B) ∧ popN 1 (P.map mpc ++ B) = 0 ∧ okP 0 P2 ∧ cn40 P = cn40 P2 + 1 ∧ cn2 P = cn2 P2 ∧ (popE 1 (P.map mpc ++ B)).map en = popF 3 P
  | [], _, _, _, h => by cases h
  | x :: P, q, h, hq, hm => by
    have e : (x :: P).map mpc ++ B = mpc x :: (P.map mpc ++ B) := rfl
    have op : ∀ q2 : Nat, q2 ≠ 0 → (x = 3 ∨ x = 4 ∨ x = 5 ∨ x = 6) → okP q2 P → ∃ P2, popM 3 (x :: P) = 40 :: P2 ∧ popR 1 ((x :: P).map mpc ++ B) = 29 :: (P2.map mpc ++ B) ∧ popN 1 ((x :: P).map mpc ++ B) = 0 ∧ okP 0 P2 ∧ cn40 (x :: P) = cn40 P2 + 1 ∧ cn2 (x :: P) = cn2 P2 ∧ (popE 1 ((x :: P).map mpc ++ B)).map en = popF 3 (x :: P) := fun q2 h2 hx ho => by
      obtain ⟨r1, r2, r3, r4, r5⟩ := rk_op hx
      have hm2 : (40 : Int32) ∈ P := by
        rcases List.mem_cons.mp hm with y | y
        · exact absurd y.symm (opr_n hx).1
        · exact y
      obtain ⟨P2, i1, i2, i3, i4, i5, i6, i7⟩ := pop_1 (B := B) P q2 ho (Or.inl h2) hm2
      rw [e, popR_c r4, popN_c r4, popM_c r5, if_neg (show ¬ (mpc x = 11 ∨ mpc x = 35) from fun y => by rcases y with z | z; exact r1 z; exact r2 z), c40_n (opr_n hx).1, c2_n (opr_n hx).2, Nat.zero_add, popE_c r4, popF_c r5, List.map_cons, en_op hx]
      exact ⟨P2, i1, i2, i3, i4, i5, i6, by rw [i7]⟩
    rcases h with ⟨a, b⟩ | ⟨a, a2, b⟩ | ⟨a, a2, b⟩ | ⟨a, a2, b⟩
    · subst a
      refine ⟨P, popM_s (by decide), ?_, ?_, b, ?_, c2_n (by decide), ?_⟩
      · rw [e, mp_40, popR_s (show g_X4_rank 29 < 1 by decide)]
      · rw [e, mp_40, popN_s (show g_X4_rank 29 < 1 by decide)]
      · show (if (40 : Int32) = 40 then 1 else 0) + cn40 P = cn40 P + 1
        rw [if_pos rfl]; omega
      · rw [e, mp_40, popE_s (show g_X4_rank 29 < 1 by decide), popF_s (show g_X12_isIn_x 40 3 6 = 0 by decide)]
        rfl
    · rcases hq with y | y
      · exact absurd a2 y
      · exact absurd a y
    · exact op 1 (by decide) (by rcases a with z | z; exact Or.inr (Or.inr (Or.inl z)); exact Or.inr (Or.inr (Or.inr z))) b
    · exact op 2 (by decide) (by rcases a with z | z; exact Or.inl z; exact Or.inr (Or.inl z)) b
/-- a ONE is whole: the - of one ONE at the top go -/
theorem map_W : ∀ P : List Int32, P.map mpc = List.replicate (cntW P) 35 ++ (popW P).map mpc
  | [] => rfl
  | x :: P => by
    by_cases h : x = 2
    · have a : cntW (x :: P) = 1 + cntW P := if_pos h
      have b : popW (x :: P) = popW P := if_pos h
      rw [a, b, Nat.add_comm 1, List.replicate_succ]
      show mpc x :: P.map mpc = 35 :: (List.replicate (cntW P) 35 ++ (popW P).map mpc)
      rw [h, mp_2, map_W P]
    · have a : cntW (x :: P) = 0 := if_neg h
      have b : popW (x :: P) = x :: P := if_neg h
      rw [a, b]
      rfl
theorem ok_W : ∀ P : List Int32, okP 0 P → okP 0 (popW P) ∧ no2 (popW P) ∧ cn40 (popW P) = cn40 P ∧ cn2 P = cntW P + cn2 (popW P)
  | [], _ => ⟨trivial, trivial, rfl, rfl⟩
  | x :: P, h => by
    by_cases q : x = 2
    · have a : cntW (x :: P) = 1 + cntW P := if_pos q
      have b : popW (x :: P) = popW P := if_pos q
      have hP : okP 0 P := by
        rcases h with ⟨y, z⟩ | ⟨y, y2, z⟩ | ⟨y, y2, z⟩ | ⟨y, y2, z⟩
        · exact z
        · exact z
        · rw [q] at y; rcases y with y | y <;> exact absurd y (by decide)
        · rw [q] at y; rcases y with y | y <;> exact absurd y (by decide)
      obtain ⟨i1, i2, i3, i4⟩ := ok_W P hP
      rw [a, b]
      refine ⟨i1, i2, by rw [i3, c40_n (show x ≠ 40 by rw [q]; decide)], ?_⟩
      show (if x = 2 then 1 else 0) + cn2 P = _
      rw [if_pos q]; omega
    · have a : cntW (x :: P) = 0 := if_neg q
      have b : popW (x :: P) = x :: P := if_neg q
      rw [a, b]
      exact ⟨h, q, rfl, (Nat.zero_add _).symm⟩
/-- what has waited for a ONE goes at each settle -/
theorem pop_rep {a : Int32} (ha : ¬ g_X4_rank 35 < a) {L : List Int32} : ∀ k : Nat, popR a (List.replicate k 35 ++ L) = popR a L ∧ popN a (List.replicate k 35 ++ L) = k + popN a L ∧ popE a (List.replicate k 35 ++ L) = List.replicate k (-35) ++ popE a L
  | 0 => ⟨rfl, (Nat.zero_add _).symm, rfl⟩
  | k + 1 => by
    obtain ⟨i1, i2, i3⟩ := pop_rep ha (L := L) k
    rw [List.replicate_succ, List.replicate_succ]
    show popR a (35 :: (List.replicate k 35 ++ L)) = _ ∧ popN a (35 :: (List.replicate k 35 ++ L)) = _ ∧ popE a (35 :: (List.replicate k 35 ++ L)) = -35 :: (List.replicate k (-35) ++ popE a L)
    rw [popR_c ha, popN_c ha, popE_c ha, if_pos (show (35 : Int32) = 11 ∨ (35 : Int32) = 35 from Or.inr rfl), i1, i2, i3]
    exact ⟨rfl, by omega, rfl⟩
/-- all of Q go -/
def allR (a : Int32) (Q : List Int32) : Prop := ∀ x, x ∈ Q → ¬ g_X4_rank x < a
def cntO : List Int32 → Nat
  | [] => 0
  | x :: L => (if x = 11 ∨ x = 35 then 1 else 0) + cntO L
theorem pop_all {a : Int32} {L : List Int32} : ∀ Q : List Int32, allR a Q → popR a (Q ++ L) = popR a L ∧ popN a (Q ++ L) = cntO Q + popN a L ∧ popE a (Q ++ L) = Q.map (fun x => -x) ++ popE a L
  | [], _ => ⟨rfl, (Nat.zero_add _).symm, rfl⟩
  | x :: Q, h => by
    obtain ⟨i1, i2, i3⟩ := pop_all (L := L) Q (fun y hy => h y (List.mem_cons_of_mem _ hy))
    have hx := h x (List.mem_cons_self ..)
    show popR a (x :: (Q ++ L)) = _ ∧ popN a (x :: (Q ++ L)) = ((if x = 11 ∨ x = 35 then 1 else 0) + cntO Q) + popN a L ∧ popE a (x :: (Q ++ L)) = -x :: (Q.map (fun x => -x) ++ popE a L)
    rw [popR_c hx, popN_c hx, popE_c hx, i1, i2, i3]
    exact ⟨rfl, by omega, rfl⟩
end PR6
