/-! ===== pure: an EITHER, both sides ===== -/
section PR10
/-- what is told of and, or that are past -/
def lA (x : Int32) : List (Int32 × Int32) := if x = 0 then [] else [(21, 0)]
def lO (x : Int32) : List (Int32 × Int32) := if x = 0 then [] else [(22, 0)]
variable {J : Nat → Int64} {rj : Nat → Nat → Int64} {rq : Nat → Nat → Option Nat} {mj : Nat → Nat → Int64} {mq : Nat → Nat → Option Nat}
theorem eith_a {I : Nat → Int32} {J1 : Nat → Int64} {r : Nat → Nat → Int32} {I2 : Nat → Int32} {J2 : Nat → Int64} {r2 : Nat → Nat → Int32} {c v x1 x2 : Int32} {m : Nat} (ha : g_X12_ask I J1 r mj mq = (0, I2, J2, r2, mj, mq)) (hT : TKF I2 J2 c v) (qa : c = 10) : ∃ (I3 : Nat → Int32) (r3 : Nat → Nat → Int32), (∀ f, f ≠ 398 → I3 f = I2 f) ∧ (∀ q, q ≠ 384 → r3 q = r2 q) ∧ FS I3 r3 = fmL (I2 396) (FS I2 r2) (lA x1) ∧ g_X12_either_L6 mj mq (m + 1) x1 x2 1 I J1 r = bnV (g_X12_nextToken_x I3 J2 r3 mj mq) fun (I4 : Nat → Int32) (J4 : Nat → Int64) (_ : Nat → Nat → Int32) (_ : Nat → Nat → Int64) (_ : Nat → Nat → Option Nat) => g_X12_either_L6 mj mq m 1 x2 1 I4 J4 r3 := by
  rw [g_X12_either_L6_e]
  try simp only [↓ap1_n]
  rw [if_neg (show ¬ (1 : Int32) = 0 by decide), bn_n ha, if_pos (show (0 : Int32) = 0 from rfl)]
  have q2 : ∀ K : Nat → Int32, TKF K J2 c v → K 393 = 2 := fun K h => by
    obtain ⟨t0, t18, t33, s19, s20, s21, s22, s23, s24, s25, s26, s27, s28, s29, s30, s31, s32, t2, tv, tw⟩ := h
    exact t2.mpr (Or.inl ⟨by rw [qa]; decide, by rw [qa]; decide⟩)
  have nc : ∀ K : Nat → Int32, TKF K J2 c v → ¬ lg_cmp (J2 395) 28530 = 0 := fun K h y => by
    have := (word_or h).mp ⟨q2 K h, y⟩
    rw [qa] at this; exact absurd this (by decide)
  by_cases z1 : x1 = 0
  · rw [if_pos z1]
    rw [bn_n (show g_X12_isWord_x (g_X12_w3_x 97 110 100) I2 J2 r2 mj mq = (1, I2, J2, r2, mj, mq) by rw [word_and hT, if_pos qa]), if_pos (q2 I2 hT), if_neg (nc I2 hT), if_neg (show ¬ (1 : Int32) = 0 by decide)]
    exact ⟨I2, r2, fun f _ => rfl, fun q _ => rfl, by unfold lA; rw [if_pos z1]; rfl, rfl⟩
  · rw [if_neg z1]
    obtain ⟨I3, r3, e1, e2, e3, e4⟩ := emit_m (J := J2) (ri := r2) (rj := mj) (rq := mq) (a := 21) (b := 0) (I := I2)
    rw [bv_n e1]
    have hT3 : TKF I3 J2 c v := TKF_fr hT (e2 393 (by decide)) (e2 394 (by decide))
    rw [bn_n (show g_X12_isWord_x (g_X12_w3_x 97 110 100) I3 J2 r3 mj mq = (1, I3, J2, r3, mj, mq) by rw [word_and hT3, if_pos qa]), if_pos (q2 I3 hT3), if_neg (nc I3 hT3), if_neg (show ¬ (1 : Int32) = 0 by decide)]
    exact ⟨I3, r3, e2, e3, by unfold lA; rw [if_neg z1]; exact e4, rfl⟩
theorem eith_o {I : Nat → Int32} {J1 : Nat → Int64} {r : Nat → Nat → Int32} {I2 : Nat → Int32} {J2 : Nat → Int64} {r2 : Nat → Nat → Int32} {c v x1 x2 : Int32} {m : Nat} (ha : g_X12_ask I J1 r mj mq = (0, I2, J2, r2, mj, mq)) (hT : TKF I2 J2 c v) (qo : c = 9) : ∃ (I3 : Nat → Int32) (r3 : Nat → Nat → Int32), (∀ f, f ≠ 398 → I3 f = I2 f) ∧ (∀ q, q ≠ 384 → r3 q = r2 q) ∧ FS I3 r3 = fmL (I2 396) (FS I2 r2) (lA x1 ++ lO x2) ∧ g_X12_either_L6 mj mq (m + 1) x1 x2 1 I J1 r = bnV (g_X12_nextToken_x I3 J2 r3 mj mq) fun (I4 : Nat → Int32) (J4 : Nat → Int64) (_ : Nat → Nat → Int32) (_ : Nat → Nat → Int64) (_ : Nat → Nat → Option Nat) => g_X12_either_L6 mj mq m 0 1 1 I4 J4 r3 := by
  rw [g_X12_either_L6_e]
  try simp only [↓ap1_n]
  rw [if_neg (show ¬ (1 : Int32) = 0 by decide), bn_n ha, if_pos (show (0 : Int32) = 0 from rfl)]
  have na : ¬ c = 10 := fun y => by rw [qo] at y; exact absurd y (by decide)
  by_cases z1 : x1 = 0
  · rw [if_pos z1]
    rw [bn_n (show g_X12_isWord_x (g_X12_w3_x 97 110 100) I2 J2 r2 mj mq = (0, I2, J2, r2, mj, mq) by rw [word_and hT, if_neg na]), if_pos ((word_or hT).mpr qo).1, if_pos ((word_or hT).mpr qo).2, if_pos (show (0 : Int32) = 0 from rfl)]
    by_cases z2 : x2 = 0
    · rw [if_pos z2]
      exact ⟨I2, r2, fun f _ => rfl, fun q _ => rfl, by unfold lA lO; rw [if_pos z1, if_pos z2]; rfl, rfl⟩
    · rw [if_neg z2]
      obtain ⟨I5, r5, f1, f2, f3, f4⟩ := emit_m (J := J2) (ri := r2) (rj := mj) (rq := mq) (a := 22) (b := 0) (I := I2)
      rw [bv_n f1]
      exact ⟨I5, r5, f2, f3, by unfold lA lO; rw [if_pos z1, if_neg z2]; exact f4, rfl⟩
  · rw [if_neg z1]
    obtain ⟨I3, r3, e1, e2, e3, e4⟩ := emit_m (J := J2) (ri := r2) (rj := mj) (rq := mq) (a := 21) (b := 0) (I := I2)
    rw [bv_n e1]
    have hT3 : TKF I3 J2 c v := TKF_fr hT (e2 393 (by decide)) (e2 394 (by decide))
    rw [bn_n (show g_X12_isWord_x (g_X12_w3_x 97 110 100) I3 J2 r3 mj mq = (0, I3, J2, r3, mj, mq) by rw [word_and hT3, if_neg na]), if_pos ((word_or hT3).mpr qo).1, if_pos ((word_or hT3).mpr qo).2, if_pos (show (0 : Int32) = 0 from rfl)]
    by_cases z2 : x2 = 0
    · rw [if_pos z2]
      exact ⟨I3, r3, e2, e3, by unfold lA lO; rw [if_neg z1, if_pos z2]; exact e4, rfl⟩
    · rw [if_neg z2]
      obtain ⟨I5, r5, f1, f2, f3, f4⟩ := emit_m (J := J2) (ri := r3) (rj := mj) (rq := mq) (a := 22) (b := 0) (I := I3)
      rw [bv_n f1]
      exact ⟨I5, r5, fun f hf => (f2 f hf).trans (e2 f hf), fun q hq => (f3 q hq).trans (e3 q hq), by
        unfold lA lO
        rw [if_neg z1, if_neg z2, f4, e4, e2 396 (by decide)]
        rfl, rfl⟩
theorem eith_e {I : Nat → Int32} {J1 : Nat → Int64} {r : Nat → Nat → Int32} {I2 : Nat → Int32} {J2 : Nat → Int64} {r2 : Nat → Nat → Int32} {c v x1 x2 : Int32} {m : Nat} (ha : g_X12_ask I J1 r mj mq = (0, I2, J2, r2, mj, mq)) (hT : TKF I2 J2 c v) (na : ¬ c = 10) (no : ¬ c = 9) : ∃ (I3 : Nat → Int32) (r3 : Nat → Nat → Int32), (∀ f, f ≠ 398 → I3 f = I2 f) ∧ (∀ q, q ≠ 384 → r3 q = r2 q) ∧ FS I3 r3 = fmL (I2 396) (FS I2 r2) (lA x1 ++ lO x2) ∧ g_X12_either_L6 mj mq (m + 1) x1 x2 1 I J1 r = g_X12_either_L6 mj mq m 0 0 0 I3 J2 r3 := by
  rw [g_X12_either_L6_e]
  try simp only [↓ap1_n]
  rw [if_neg (show ¬ (1 : Int32) = 0 by decide), bn_n ha, if_pos (show (0 : Int32) = 0 from rfl)]
  by_cases z1 : x1 = 0
  · rw [if_pos z1]
    rw [bn_n (show g_X12_isWord_x (g_X12_w3_x 97 110 100) I2 J2 r2 mj mq = (0, I2, J2, r2, mj, mq) by rw [word_and hT, if_neg na])]
    have sk : ∀ A B : Int32 × vM, (if I2 393 = 2 then (if lg_cmp (J2 395) 28530 = 0 then A else B) else B) = B := fun A B => by
      by_cases y : I2 393 = 2
      · rw [if_pos y, if_neg (fun z => no ((word_or hT).mp ⟨y, z⟩))]
      · rw [if_neg y]
    rw [sk, if_pos (show (0 : Int32) = 0 from rfl)]
    by_cases z2 : x2 = 0
    · rw [if_pos z2]
      exact ⟨I2, r2, fun f _ => rfl, fun q _ => rfl, by unfold lA lO; rw [if_pos z1, if_pos z2]; rfl, rfl⟩
    · rw [if_neg z2]
      obtain ⟨I5, r5, f1, f2, f3, f4⟩ := emit_m (J := J2) (ri := r2) (rj := mj) (rq := mq) (a := 22) (b := 0) (I := I2)
      rw [bv_n f1]
      exact ⟨I5, r5, f2, f3, by unfold lA lO; rw [if_pos z1, if_neg z2]; exact f4, rfl⟩
  · rw [if_neg z1]
    obtain ⟨I3, r3, e1, e2, e3, e4⟩ := emit_m (J := J2) (ri := r2) (rj := mj) (rq := mq) (a := 21) (b := 0) (I := I2)
    rw [bv_n e1]
    have hT3 : TKF I3 J2 c v := TKF_fr hT (e2 393 (by decide)) (e2 394 (by decide))
    rw [bn_n (show g_X12_isWord_x (g_X12_w3_x 97 110 100) I3 J2 r3 mj mq = (0, I3, J2, r3, mj, mq) by rw [word_and hT3, if_neg na])]
    have sk : ∀ A B : Int32 × vM, (if I3 393 = 2 then (if lg_cmp (J2 395) 28530 = 0 then A else B) else B) = B := fun A B => by
      by_cases y : I3 393 = 2
      · rw [if_pos y, if_neg (fun z => no ((word_or hT3).mp ⟨y, z⟩))]
      · rw [if_neg y]
    rw [sk, if_pos (show (0 : Int32) = 0 from rfl)]
    by_cases z2 : x2 = 0
    · rw [if_pos z2]
      exact ⟨I3, r3, e2, e3, by unfold lA lO; rw [if_neg z1, if_pos z2]; exact e4, rfl⟩
    · rw [if_neg z2]
      obtain ⟨I5, r5, f1, f2, f3, f4⟩ := emit_m (J := J2) (ri := r3) (rj := mj) (rq := mq) (a := 22) (b := 0) (I := I3)
      rw [bv_n f1]
      exact ⟨I5, r5, fun f hf => (f2 f hf).trans (e2 f hf), fun q hq => (f3 q hq).trans (e3 q hq), by
        unfold lA lO
        rw [if_neg z1, if_neg z2, f4, e4, e2 396 (by decide)]
        rfl, rfl⟩
theorem CL_139 {N : Nat} {d i : Int32} {I : Nat → Int32} {r : Nat → Nat → Int32} (h0 : I 129 = 0) (h : I 139 ≠ 0) : g_X4_readEither_L34 J rj rq N d i I r = (I, J, r, rj, rq) := by
  cases N with
  | zero => rfl
  | succ N =>
    rw [g_X4_readEither_L34_e]
    try simp only [↓ap1_n]
    by_cases c : (300 : Int32) < i
    · rw [if_pos c]
    · rw [if_neg c, if_pos h0, if_neg h]
/-- what waits ahead of an ASK -/
def bB (x1 x2 : Int32) : List Int32 := if x1 = 0 then (if x2 = 0 then [] else [9]) else (if x2 = 0 then [10] else [10, 9])
theorem bB_ok (x1 x2 : Int32) : okB (bB x1 x2) := by
  unfold bB
  by_cases a : x1 = 0
  · rw [if_pos a]
    by_cases b : x2 = 0
    · rw [if_pos b]; exact Or.inl rfl
    · rw [if_neg b]; exact Or.inr (Or.inl rfl)
  · rw [if_neg a]
    by_cases b : x2 = 0
    · rw [if_pos b]; exact Or.inr (Or.inr (Or.inl rfl))
    · rw [if_neg b]; exact Or.inr (Or.inr (Or.inr rfl))
theorem bB_and (x1 x2 : Int32) : 10 :: popR 2 (bB x1 x2) = bB 1 x2 := by
  unfold bB
  rw [if_neg (show ¬ (1 : Int32) = 0 by decide)]
  by_cases a : x1 = 0
  · rw [if_pos a]
    by_cases b : x2 = 0
    · rw [if_pos b, if_pos b]; rfl
    · rw [if_neg b, if_neg b, popR_s (show g_X4_rank 9 < 2 by decide)]
  · rw [if_neg a]
    by_cases b : x2 = 0
    · rw [if_pos b, popR_c (show ¬ g_X4_rank 10 < 2 by decide)]; rfl
    · rw [if_neg b, popR_c (show ¬ g_X4_rank 10 < 2 by decide), popR_s (show g_X4_rank 9 < 2 by decide)]
theorem bB_or : ([9] : List Int32) = bB 0 1 := by
  unfold bB
  rw [if_pos rfl, if_neg (show ¬ (1 : Int32) = 0 by decide)]
theorem bB_2 (x1 x2 : Int32) : (popE 2 (bB x1 x2)).map en = lA x1 := by
  unfold bB lA
  by_cases a : x1 = 0
  · rw [if_pos a, if_pos a]
    by_cases b : x2 = 0
    · rw [if_pos b]; rfl
    · rw [if_neg b, popE_s (show g_X4_rank 9 < 2 by decide)]; rfl
  · rw [if_neg a, if_neg a]
    by_cases b : x2 = 0
    · rw [if_pos b, popE_c (show ¬ g_X4_rank 10 < 2 by decide)]; decide
    · rw [if_neg b, popE_c (show ¬ g_X4_rank 10 < 2 by decide), popE_s (show g_X4_rank 9 < 2 by decide)]; decide
theorem bB_1 (x1 x2 : Int32) : (popE 1 (bB x1 x2)).map en = lA x1 ++ lO x2 := by
  have r9 : ¬ g_X4_rank 9 < 1 := by decide
  have r10 : ¬ g_X4_rank 10 < 1 := by decide
  unfold bB lA lO
  by_cases a : x1 = 0
  · rw [if_pos a, if_pos a]
    by_cases b : x2 = 0
    · rw [if_pos b, if_pos b]; rfl
    · rw [if_neg b, if_neg b, popE_c r9]; decide
  · rw [if_neg a, if_neg a]
    by_cases b : x2 = 0
    · rw [if_pos b, if_pos b, popE_c r10]; decide
    · rw [if_neg b, if_neg b, popE_c r10, popE_c r9]; decide
theorem bB_t (x1 x2 : Int32) {a : Int32} (ha : a = 1 ∨ a = 2) : eTr (popE a (bB x1 x2)) (true :: eTy (bB x1 x2)) = some (true :: eTy (popR a (bB x1 x2))) := by
  have d : ∀ B : List Int32, okB B → ∀ a : Int32, a = 1 ∨ a = 2 → eTr (popE a B) (true :: eTy B) = some (true :: eTy (popR a B)) := fun B hB a ha => by
    rcases ha with ha | ha <;> subst ha <;> rcases hB with h | h | h | h <;> subst h <;> decide
  exact d _ (bB_ok x1 x2) a ha
/-- what an EITHER has told -/
def CEI (S0 F0 : Int32 × (Nat → Int32)) (bb : Int32) (p0 : Nat) : ((Nat → Int32) → (Nat → Nat → Int32) → (Nat → Int32) → (Nat → Nat → Int32) → Nat → Prop) := fun (If : Nat → Int32) (rf : Nat → Nat → Int32) (I1 : Nat → Int32) (r1 : Nat → Nat → Int32) (p2 : Nat) => ∃ E : List Int32, ES If rf = emL S0 E ∧ FS I1 r1 = fmL bb F0 (E.map en) ∧ I1 396 = bb ∧ E.length + p0 ≤ p2 ∧ eTr E [] = some [true]
/-- how the reading of an EITHER ends -/
def ERES (J : Nat → Int64) (rj : Nat → Nat → Int64) (rq : Nat → Nat → Option Nat) (mj : Nat → Nat → Int64) (mq : Nat → Nat → Option Nat) (n : Nat) (T : Nat → Int32) (C : (Nat → Int32) → (Nat → Nat → Int32) → (Nat → Int32) → (Nat → Nat → Int32) → Nat → Prop) (Z : (Nat → Int32) → (Nat → Nat → Int32) → Prop) (X : vM) (Y : Int32 × vM) (tm0 : Int) : Prop := ∃ (f : Int32) (I1 : Nat → Int32) (J1 : Nat → Int64) (r1 : Nat → Nat → Int32), Y = (f, I1, J1, r1, mj, mq) ∧ ((f ≠ 0 ∧ ∃ s : Nat, (I1 392).toInt = (s : Int) ∧ FIN J rj rq f s X ∧ Z I1 r1) ∨ (f = 0 ∧ ∃ (p2 : Nat) (c2 v2 : Int32) (s2 e2 : Nat) (P2 : List Int32), TKC T n p2 c2 s2 e2 v2 ∧ RST n T c2 v2 s2 e2 P2 0 I1 J1 r1 ∧ ((c2 = 32 ∧ ∃ (If : Nat → Int32) (rf : Nat → Nat → Int32), X = (If, J, rf, rj, rq) ∧ If 129 = 0 ∧ (If 193).toInt = (n : Int) ∧ rf 192 = T ∧ (If 197).toInt = (e2 : Int) ∧ C If rf I1 r1 p2) ∨ (c2 ≠ 32 ∧ FIN J rj rq 1 s2 X ∧ Z I1 r1)) ∧ tmM (I1 391).toInt (I1 393).toInt < tm0))
theorem ERES_w {n : Nat} {T : Nat → Int32} {C : (Nat → Int32) → (Nat → Nat → Int32) → (Nat → Int32) → (Nat → Nat → Int32) → Nat → Prop} {Z : (Nat → Int32) → (Nat → Nat → Int32) → Prop} {X : vM} {Y : Int32 × vM} {t0 t1 : Int} (h : ERES J rj rq mj mq n T C Z X Y t0) (ht : t0 ≤ t1) : ERES J rj rq mj mq n T C Z X Y t1 := by
  obtain ⟨f, I1, J1, r1, e, h⟩ := h
  refine ⟨f, I1, J1, r1, e, ?_⟩
  rcases h with y | ⟨y, p2, c2, v2, s2, e2, P2, a1, a2, a3, a4⟩
  · exact Or.inl y
  · exact Or.inr ⟨y, p2, c2, v2, s2, e2, P2, a1, a2, a3, by omega⟩
theorem eith_L {n : Nat} {T : Nat → Int32} (h3 : n ≤ 300) (hb : ∀ j, j < n → 0 ≤ (T j).toInt) {S0 F0 : Int32 × (Nat → Int32)} {bb : Int32} {p0 : Nat} : ∀ (m N : Nat) (i : Int32) (I : Nat → Int32) (r : Nat → Nat → Int32) (x1 x2 : Int32) (I' : Nat → Int32) (J' : Nat → Int64) (r' : Nat → Nat → Int32) (P : List Int32) (p : Nat) (c v : Int32) (s e : Nat), (2 * tmM (I' 391).toInt (I' 393).toInt + 1).toNat < m → CST n p T (bB x1 x2) 0 0 0 I r → I 137 ≠ 0 → TKC T n p c s e v → RST n T c v s e P 0 I' J' r' → 0 ≤ i.toInt → i.toInt ≤ (p : Int) → (301 - i.toInt).toNat < N → ∀ E : List Int32, ES I r = emL S0 E → FS I' r' = fmL bb F0 (E.map en) → I' 396 = bb → E.length + (bB x1 x2).length + p0 ≤ p → eTr E [] = some (eTy (bB x1 x2)) → ∀ d : Int32, d ≠ 0 → ERES J rj rq mj mq n T (CEI S0 F0 bb p0) (LOWF F0 bb) (g_X4_readEither_L34 J rj rq N d i I r) (g_X12_either_L6 mj mq m x1 x2 1 I' J' r') (tmM (I' 391).toInt (I' 393).toInt) := by
  intro m
  induction m with
  | zero => intro _ _ _ _ _ _ _ _ _ _ _ _ _ _ _ h; exact absurd h (Nat.not_lt_zero _)
  | succ m ih =>
    intro N i I r x1 x2 I' J' r' P p c v s e hm hC hI ht hR hi0 hip hN E hE hF hbb hEl hTr d hd
    have hok := bB_ok x1 x2
    have bl := okB_l hok
    obtain ⟨_, _, _, _, ob2, ob3, ob4⟩ := okB_p hok
    have hC0 : CST n p T (List.replicate 0 11 ++ bB x1 x2) (0 + 0) 0 0 I r := hC
    obtain ⟨f, I1, J1, r1, ee, hh⟩ := ask_sim (J := J) (rj := rj) (rq := rq) (mj := mj) (mq := mq) h3 hb hok (o0 := 0) (S0 := S0) (F0 := F0) (bb := bb) (p0 := p0 + (bB x1 x2).length) (n - p + 1) N i 0 I r ((tmM (I' 391).toInt (I' 393).toInt).toNat + 1) I' J' r' P 0 p c v s e (Nat.lt_succ_self _) hC0 hI ht hR (by decide) (by decide) hi0 hip hN (Nat.lt_succ_self _) E hE hF hbb (by omega) hTr d hd
    have ea : g_X12_ask I' J' r' mj mq = (f, I1, J1, r1, mj, mq) := by
      rw [g_X12_ask_e]
      try simp only [↓ap1_n]
      exact ee
    rcases hh with ⟨y, s0, y1, y2⟩ | ⟨y, p2, c2, v2, s2, e2, N2, i2, I2, r2, Q, P2, w1, w2, w3, w4, w5, w6, w7, w8, w9, w10, w11, E1, hE1, hF1, hb1, hl1, ht1⟩
    · rw [g_X12_either_L6_e]
      try simp only [↓ap1_n]
      rw [if_neg (show ¬ (1 : Int32) = 0 by decide), bn_n ea, if_neg y]
      exact ⟨f, I1, J1, r1, rfl, Or.inl ⟨y, s0, y1, y2⟩⟩
    · subst y
      rw [w1]
      have hle2 := TKC_le w3
      have p2n := w2.1.2.2.2.1
      have te : 0 ≤ tmM (I1 391).toInt (I1 393).toInt := tm_b (by have := w4.2.1.1; omega)
      cases N2 with
      | zero => exact absurd w10 (Nat.not_lt_zero _)
      | succ N2 =>
      obtain ⟨I3, ⟨g1, g2, g3⟩, hC3, ⟨hA3, hA4⟩, _, hD3⟩ := CL_s (J := J) (rj := rj) (rq := rq) h3 w2 w3 (i := i2) (by omega) N2
      have hC3' := hC3
      obtain ⟨⟨z1, z2, z3, z4, z5, z6⟩, ⟨y1, y2⟩, u1, u2, u3⟩ := hC3'
      have lQ : (Q ++ bB x1 x2).length = Q.length + (bB x1 x2).length := List.length_append
      have nb : (I3 136).toInt ≤ 0 := by rw [u2]; decide
      have nm : I3 138 ≠ 0 := by rw [u3]; decide
      -- and, or: another ASK
      have more : ∀ (a ch nx1 nx2 : Int32) (R : List Int32) (I4 : Nat → Int32) (r4 : Nat → Nat → Int32), c2 ≠ 33 → allR a Q → popR a (bB x1 x2) = R → popN a (bB x1 x2) = 0 → R.length ≤ 2 → ch :: R = bB nx1 nx2 → (ch = 9 ∨ ch = 10) → (a = 1 ∨ a = 2) → (∀ f, f ≠ 398 → I4 f = I1 f) → (∀ q, q ≠ 384 → r4 q = r1 q) → FS I4 r4 = fmL (I1 396) (FS I1 r1) ((popE a (bB x1 x2)).map en) → ERES J rj rq mj mq n T (CEI S0 F0 bb p0) (LOWF F0 bb) (bnI (bnV (g_X4_settle a (va_up (va_up (va_up I3 137 0) 138 0) 137 1) J r2 rj rq) fun (I6 : Nat → Int32) (_ : Nat → Int64) (r6 : Nat → Nat → Int32) (_ : Nat → Nat → Int64) (_ : Nat → Nat → Option Nat) => bnV (g_X4_await ch I6 J r6 rj rq) fun (I7 : Nat → Int32) (_ : Nat → Int64) (r7 : Nat → Nat → Int32) (_ : Nat → Nat → Int64) (_ : Nat → Nat → Option Nat) => (((1 : Int32), I7, J, r7, rj, rq) : Int32 × vM)) fun (x : Int32) (I3 : Nat → Int32) (_ : Nat → Int64) (r3 : Nat → Nat → Int32) (_ : Nat → Nat → Int64) (_ : Nat → Nat → Option Nat) => g_X4_readEither_L34 J rj rq N2 x (i2 + Int32.ofInt 1) I3 r3) (bnV (g_X12_nextToken_x I4 J1 r4 mj mq) fun (I4 : Nat → Int32) (J4 : Nat → Int64) (_ : Nat → Nat → Int32) (_ : Nat → Nat → Int64) (_ : Nat → Nat → Option Nat) => g_X12_either_L6 mj mq m nx1 nx2 1 I4 J4 r4) (tmM (I' 391).toInt (I' 393).toInt) := fun a ch nx1 nx2 R I4 r4 h33 haR hpR hpN hR2 hnx hch haa fr1 fr2 hF4 => by
        have hR4 := RST_fr w4 fr1 fr2
        obtain ⟨c', s', e', v', ht'⟩ := TKC_ex T z4
        obtain ⟨I5, J5, f1, f2, f3⟩ := RST_n (mj := mj) (mq := mq) h3 hb hR4 hle2.2.2.1 ht'
        rw [bv_n f1]
        obtain ⟨n1, n2⟩ := tm_nx h3 hR4 h33 f2 ht'
        rw [fr1 391 (by decide), fr1 393 (by decide)] at n1
        obtain ⟨pa1, pa2, pa3⟩ := pop_all (a := a) (L := bB x1 x2) Q haR
        have le1 := popE_len (a := a) (bB x1 x2)
        rw [hpR] at le1
        have le2 : R.length + 1 = (bB nx1 nx2).length := congrArg List.length hnx
        rw [hpR] at pa1
        rw [hpN, Nat.add_zero] at pa2
        obtain ⟨K, rk, e1, e2q, e3, e4, e5, e6, e7⟩ := sa_v (J := J) (ri := r2) (rj := rj) (rq := rq) (a := a) (c := ch) (K := va_up (va_up (va_up I3 137 0) 138 0) 137 1) (w := (Q ++ bB x1 x2).length) (o := 0 + cntO Q) (by rw [va_up_ne _ _ (show (134 : Nat) ≠ 137 by decide), va_up_ne _ _ (show (134 : Nat) ≠ 138 by decide), va_up_ne _ _ (show (134 : Nat) ≠ 137 by decide)]; exact y1) (by omega) (by rw [va_up_ne _ _ (show (135 : Nat) ≠ 137 by decide), va_up_ne _ _ (show (135 : Nat) ≠ 138 by decide), va_up_ne _ _ (show (135 : Nat) ≠ 137 by decide)]; exact u1) (by rw [y2, pa2]; omega) (by omega)
        rw [y2, pa1] at e2q e3
        rw [y2, pa3, ES_I (by decide), ES_I (by decide), ES_I (by decide), ES_eq hA4 rfl, hE1, ← emL_app] at e7
        rw [hb1, hF1, ← fmL_app, ← List.map_append, List.append_assoc] at hF4
        rw [y2, pa2] at e4
        rw [bn_n e1]
        have fr : ∀ f, f ≠ 132 → f ≠ 134 → f ≠ 135 → f ≠ 137 → f ≠ 138 → K f = I3 f := fun f h1 h2 h3 h4 h5 => by rw [e5 f h1 h2 h3, va_up_ne _ _ h4, va_up_ne _ _ h5, va_up_ne _ _ h4]
        have k137 : K 137 ≠ 0 := by rw [e5 137 (by decide) (by decide) (by decide), va_up_self]; decide
        have hC5 : CST n e2 T (ch :: R) 0 0 0 K rk := ⟨⟨by rw [fr 193 (by decide) (by decide) (by decide) (by decide) (by decide)]; exact z1, by rw [e6 192 (by decide) (by decide)]; exact z2, by rw [fr 197 (by decide) (by decide) (by decide) (by decide) (by decide)]; exact z3, z4, by rw [fr 129 (by decide) (by decide) (by decide) (by decide) (by decide)]; exact z5, by rw [fr 139 (by decide) (by decide) (by decide) (by decide) (by decide)]; exact z6⟩, ⟨e2q, e3⟩, by omega, by rw [fr 136 (by decide) (by decide) (by decide) (by decide) (by decide)]; exact u2, by rw [e5 138 (by decide) (by decide) (by decide), va_up_ne _ _ (show (138 : Nat) ≠ 137 by decide), va_up_self]⟩
        rw [hnx] at hC5
        have hs := no_33 w3 h33
        have hse := hle2.2.2.2.2 hs
        have i1 : (i2 + Int32.ofInt 1).toInt = i2.toInt + 1 := t1_inc (by omega) (by omega)
        exact ERES_w (ih N2 (i2 + Int32.ofInt 1) K rk nx1 nx2 I5 J5 r4 P2 e2 c' v' s' e' (by omega) hC5 k137 ht' f2 (by omega) (by omega) (by omega) _ e7 ((FS_eq (f3 398 (by decide) (by decide) (by decide) (by decide)) rfl).trans hF4) (((f3 396 (by decide) (by decide) (by decide) (by decide)).trans (fr1 396 (by decide))).trans hb1) (by simp only [List.length_append, List.length_map]; omega) (by
          have y1 := bB_t x1 x2 haa
          rw [hpR] at y1
          rw [← List.append_assoc, ← hnx, eTy_t hch]
          exact eTr_2 ht1 y1) 1 (by decide)) (by omega)
      by_cases c10 : c2 = 10
      · obtain ⟨I4, r4, e1, e2', e4, e3⟩ := eith_a (m := m) (x1 := x1) (x2 := x2) ea w4.2.1.2.2 c10
        rw [e3, hD3, rb_and (by rw [g1]; exact c10) nb nm]
        have hR2 : (popR 2 (bB x1 x2)).length ≤ 2 := Nat.le_trans (popR_le _) bl
        exact more 2 10 1 x2 (popR 2 (bB x1 x2)) I4 r4 (by rw [c10]; decide) (allR_le (by decide) w5) rfl ob2 hR2 (bB_and x1 x2) (Or.inr rfl) (Or.inr rfl) e1 e2' (by rw [bB_2]; exact e4)
      by_cases c9 : c2 = 9
      · obtain ⟨I4, r4, e1, e2', e4, e3⟩ := eith_o (m := m) (x1 := x1) (x2 := x2) ea w4.2.1.2.2 c9
        rw [e3, hD3, rb_or (by rw [g1]; exact c9) nb nm]
        exact more 1 9 0 1 [] I4 r4 (by rw [c9]; decide) (allR_le (by decide) w5) ob3 ob4 (by decide) bB_or (Or.inl rfl) (Or.inl rfl) e1 e2' (by rw [bB_1]; exact e4)
      obtain ⟨I4, r4, e1, e2', e4, e3⟩ := eith_e (m := m) (x1 := x1) (x2 := x2) ea w4.2.1.2.2 c10 c9
      have hR4 := RST_fr w4 e1 e2'
      rw [e3, hD3]
      cases m with
      | zero => omega
      | succ m =>
      have le : g_X12_either_L6 mj mq (m + 1) 0 0 0 I4 J1 r4 = (0, I4, J1, r4, mj, mq) := by
        rw [g_X12_either_L6_e]
        try simp only [↓ap1_n]
        rw [if_pos trivial]
      rw [le]
      have tme : tmM (I4 391).toInt (I4 393).toInt < tmM (I' 391).toInt (I' 393).toInt := by rw [e1 391 (by decide), e1 393 (by decide)]; exact w11
      by_cases c32 : c2 = 32
      · obtain ⟨pa1, pa2, pa3⟩ := pop_all (a := 1) (L := bB x1 x2) Q (allR_le (by decide) w5)
        rw [ob4, Nat.add_zero] at pa2
        have le1 := popE_len (a := 1) (bB x1 x2)
        obtain ⟨K, rk, k1, k2, k3, k4, k5⟩ := rb_end (J := J) (ri := r2) (rj := rj) (rq := rq) (I := I3) (w := (Q ++ bB x1 x2).length) (by rw [g1]; exact c32) nb nm y1 (by omega) (by rw [y2, pa2]; omega) (by omega)
        rw [y2, pa3, ES_eq hA4 rfl, hE1, ← emL_app] at k5
        rw [hb1, hF1, ← bB_1, ← fmL_app, ← List.map_append, List.append_assoc] at e4
        have k129 : K 129 = 0 := (k3 129 (by decide) (by decide) (by decide) (by decide) (by decide)).trans z5
        rw [bn_n k1, CL_139 k129 (by rw [k2]; decide)]
        have kf : FRG Prod.snd w_X4_readBehindOne (I3, J, r2, rj, rq) (g_X4_readBehindOne I3 J r2 rj rq) := g_X4_readBehindOne_f
        rw [k1] at kf
        have k192 : rk 192 = r2 192 := kf.2.2.1 192 (by decide)
        exact ⟨0, I4, J1, r4, rfl, Or.inr ⟨rfl, p2, c2, v2, s2, e2, P2, w3, hR4, Or.inl ⟨c32, K, rk, rfl, k129, by rw [k3 193 (by decide) (by decide) (by decide) (by decide) (by decide)]; exact z1, k192.trans z2, by rw [k3 197 (by decide) (by decide) (by decide) (by decide) (by decide)]; exact z3, _, k5, e4, (e1 396 (by decide)).trans hb1, by simp only [List.length_append, List.length_map]; omega, by
          have y1 := bB_t x1 x2 (a := 1) (Or.inl rfl)
          rw [ob3] at y1
          rw [← List.append_assoc]
          exact eTr_2 ht1 y1⟩, tme⟩⟩
      · obtain ⟨K, rk, k1, k2⟩ := rb_no (J := J) (ri := r2) (rj := rj) (rq := rq) (I := I3) z5 (by rw [g1]; exact w8) (Or.inr (Or.inr ⟨nb, nm, by rw [g1]; exact c9, by rw [g1]; exact c10, by rw [g1]; exact c32⟩))
        rw [bn_n k1]
        rw [hb1, hF1, ← bB_1, ← fmL_app] at e4
        have le1 := popE_len (a := 1) (bB x1 x2)
        exact ⟨0, I4, J1, r4, rfl, Or.inr ⟨rfl, p2, c2, v2, s2, e2, P2, w3, hR4, Or.inr ⟨c32, FIN_f k2 g2 (by decide), _, e4, by simp only [List.length_append, List.length_map]; omega⟩, tme⟩⟩
theorem eith_sim {S0 F0 : Int32 × (Nat → Int32)} {bb : Int32} {p0 : Nat} {n : Nat} {T : Nat → Int32} (h3 : n ≤ 300) (hb : ∀ j, j < n → 0 ≤ (T j).toInt) {I : Nat → Int32} {r : Nat → Nat → Int32} {p : Nat} (hn : (I 193).toInt = (n : Int)) (hT : r 192 = T) (hp : (I 197).toInt = (p : Int)) (hpn : p ≤ n) (h0 : I 129 = 0) {I' : Nat → Int32} {J' : Nat → Int64} {r' : Nat → Nat → Int32} {P : List Int32} {c v : Int32} {s e : Nat} (ht : TKC T n p c s e v) (hR : RST n T c v s e P 0 I' J' r') (hE : ES I r = S0) (hF : FS I' r' = F0) (hbb : I' 396 = bb) (hp0 : p0 ≤ p) : ERES J rj rq mj mq n T (CEI S0 F0 bb p0) (LOWF F0 bb) (g_X4_readEither I J r rj rq) (g_X12_either I' J' r' mj mq) (tmM (I' 391).toInt (I' 393).toInt) := by
  rw [g_X4_readEither_e, g_X12_either_e]
  try simp only [↓ap1_n]
  have k0 : (0 : Int32).toInt = 0 := by decide
  have k1 : (1 : Int32).toInt = 1 := by decide
  have z : ∀ f, f ≠ 134 → f ≠ 135 → f ≠ 136 → f ≠ 137 → f ≠ 138 → f ≠ 139 → va_up (va_up (va_up (va_up (va_up (va_up I 134 0) 135 0) 136 0) 137 1) 138 0) 139 0 f = I f := fun f h1 h2 h3 h4 h5 h6 => by rw [va_up_ne _ _ h6, va_up_ne _ _ h5, va_up_ne _ _ h4, va_up_ne _ _ h3, va_up_ne _ _ h2, va_up_ne _ _ h1]
  have hC : CST n p T (bB 0 0) 0 0 0 (va_up (va_up (va_up (va_up (va_up (va_up I 134 0) 135 0) 136 0) 137 1) 138 0) 139 0) r := by
    have eb : bB 0 0 = [] := by unfold bB; rw [if_pos rfl, if_pos rfl]
    rw [eb]
    refine ⟨⟨by rw [z 193 (by decide) (by decide) (by decide) (by decide) (by decide) (by decide)]; exact hn, hT, by rw [z 197 (by decide) (by decide) (by decide) (by decide) (by decide) (by decide)]; exact hp, hpn, by rw [z 129 (by decide) (by decide) (by decide) (by decide) (by decide) (by decide)]; exact h0, va_up_self _ _ _⟩, ⟨?_, rfl⟩, ?_, ?_, ?_⟩
    · rw [va_up_ne _ _ (show (134 : Nat) ≠ 139 by decide), va_up_ne _ _ (show (134 : Nat) ≠ 138 by decide), va_up_ne _ _ (show (134 : Nat) ≠ 137 by decide), va_up_ne _ _ (show (134 : Nat) ≠ 136 by decide), va_up_ne _ _ (show (134 : Nat) ≠ 135 by decide), va_up_self]; exact k0
    · rw [va_up_ne _ _ (show (135 : Nat) ≠ 139 by decide), va_up_ne _ _ (show (135 : Nat) ≠ 138 by decide), va_up_ne _ _ (show (135 : Nat) ≠ 137 by decide), va_up_ne _ _ (show (135 : Nat) ≠ 136 by decide), va_up_self]; exact k0
    · rw [va_up_ne _ _ (show (136 : Nat) ≠ 139 by decide), va_up_ne _ _ (show (136 : Nat) ≠ 138 by decide), va_up_ne _ _ (show (136 : Nat) ≠ 137 by decide), va_up_self]; exact k0
    · rw [va_up_ne _ _ (show (138 : Nat) ≠ 139 by decide), va_up_self]
  have h137 : va_up (va_up (va_up (va_up (va_up (va_up I 134 0) 135 0) 136 0) 137 1) 138 0) 139 0 137 ≠ 0 := by
    rw [va_up_ne _ _ (show (137 : Nat) ≠ 139 by decide), va_up_ne _ _ (show (137 : Nat) ≠ 138 by decide), va_up_self]; decide
  exact eith_L h3 hb _ _ 0 _ r 0 0 I' J' r' P p c v s e (by rw [k1]; omega) hC h137 ht hR (by rw [k0]; omega) (by rw [k0]; omega) (by rw [k0]; omega) [] ((ES_eq (z 132 (by decide) (by decide) (by decide) (by decide) (by decide) (by decide)) rfl).trans hE) hF hbb (by rw [show bB 0 0 = [] by unfold bB; rw [if_pos rfl, if_pos rfl]]; show 0 + 0 + p0 ≤ p; omega) (by rw [show bB 0 0 = [] by unfold bB; rw [if_pos rfl, if_pos rfl]]; rfl) 1 (by decide)
end PR10
