/-! ===== pure: a SUM is read by both sides alike ===== -/
section PR7
variable {J : Nat → Int64} {rj : Nat → Nat → Int64} {rq : Nat → Nat → Option Nat} {mj : Nat → Nat → Int64} {mq : Nat → Nat → Option Nat}
/-- the class's reader between two TOKENS of an EITHER: L waits, o are open, b of them ( -/
def CST (n p : Nat) (T : Nat → Int32) (L : List Int32) (o b : Nat) (cm : Int32) (I : Nat → Int32) (r : Nat → Nat → Int32) : Prop := ((I 193).toInt = (n : Int) ∧ r 192 = T ∧ (I 197).toInt = (p : Int) ∧ p ≤ n ∧ I 129 = 0 ∧ I 139 = 0) ∧ ((I 134).toInt = (L.length : Int) ∧ stl (r 133) L.length = L) ∧ (I 135).toInt = (o : Int) ∧ (I 136).toInt = (b : Int) ∧ I 138 = cm
/-- the reference's parser at the TOKEN c: P is piled, o are open -/
def RST (n : Nat) (T : Nat → Int32) (c v : Int32) (s e : Nat) (P : List Int32) (o : Nat) (I : Nat → Int32) (J : Nat → Int64) (r : Nat → Nat → Int32) : Prop := ((I 388).toInt = (n : Int) ∧ r 387 = T) ∧ ((I 391).toInt = (e : Int) ∧ (I 392).toInt = (s : Int) ∧ TKF I J c v) ∧ ((I 401).toInt = (P.length : Int) ∧ stl (r 400) P.length = P) ∧ (I 402).toInt = (o : Int)
def FIN (J : Nat → Int64) (rj : Nat → Nat → Int64) (rq : Nat → Nat → Option Nat) (f : Int32) (s : Nat) (X : vM) : Prop := ∃ (If : Nat → Int32) (rf : Nat → Nat → Int32), X = (If, J, rf, rj, rq) ∧ If 129 = f ∧ (If 130).toInt = (s : Int)
theorem CST_fr {n p : Nat} {T : Nat → Int32} {L : List Int32} {o b : Nat} {cm : Int32} {I I' : Nat → Int32} {r r' : Nat → Nat → Int32} (h : CST n p T L o b cm I r) (hI : ∀ f, f ≠ 132 → I' f = I f) (hr : ∀ t, t ≠ 259 → r' t = r t) : CST n p T L o b cm I' r' := by
  obtain ⟨⟨a1, a2, a3, a4, a5, a6⟩, ⟨b1, b2⟩, c1, d1, e1⟩ := h
  exact ⟨⟨by rw [hI 193 (by decide)]; exact a1, by rw [hr 192 (by decide)]; exact a2, by rw [hI 197 (by decide)]; exact a3, a4, by rw [hI 129 (by decide)]; exact a5, by rw [hI 139 (by decide)]; exact a6⟩, ⟨by rw [hI 134 (by decide)]; exact b1, by rw [hr 133 (by decide)]; exact b2⟩, by rw [hI 135 (by decide)]; exact c1, by rw [hI 136 (by decide)]; exact d1, by rw [hI 138 (by decide)]; exact e1⟩
theorem CL_f {N : Nat} {d i : Int32} {I : Nat → Int32} {r : Nat → Nat → Int32} (h : I 129 ≠ 0) : g_X4_readEither_L34 J rj rq N d i I r = (I, J, r, rj, rq) := by
  cases N with
  | zero => rfl
  | succ N =>
    rw [g_X4_readEither_L34_e]
    try simp only [↓ap1_n]
    by_cases c : (300 : Int32) < i
    · rw [if_pos c]
    · rw [if_neg c, if_neg h]
theorem FIN_f {N : Nat} {d i f : Int32} {I2 I' : Nat → Int32} {r' : Nat → Nat → Int32} {s : Nat} (hF : FLT f I2 I') (hs : (I2 195).toInt = (s : Int)) (hf : f ≠ 0) : FIN J rj rq f s (g_X4_readEither_L34 J rj rq N d i I' r') := by
  rw [CL_f (by rw [hF.1]; exact hf)]
  exact ⟨I', r', rfl, hF.1, by rw [hF.2]; exact hs⟩
/-- a turn of the class -/
theorem CL_s {n p : Nat} {T : Nat → Int32} (h3 : n ≤ 300) {L : List Int32} {o b : Nat} {cm : Int32} {I : Nat → Int32} {r : Nat → Nat → Int32} (h : CST n p T L o b cm I r) {c v : Int32} {s e : Nat} (ht : TKC T n p c s e v) {i : Int32} (hi : i.toInt ≤ 300) (N : Nat) : ∃ I2 : Nat → Int32, (I2 194 = c ∧ (I2 195).toInt = (s : Int) ∧ (c = 18 → I2 196 = v)) ∧ CST n e T L o b cm I2 r ∧ (I2 137 = I 137 ∧ I2 132 = I 132) ∧ (∀ d : Int32, d ≠ 0 → g_X4_readEither_L34 J rj rq (N + 1) d i I r = bnI (g_X4_readOne I2 J r rj rq) fun (x : Int32) (I3 : Nat → Int32) (_ : Nat → Int64) (r3 : Nat → Nat → Int32) (_ : Nat → Nat → Int64) (_ : Nat → Nat → Option Nat) => g_X4_readEither_L34 J rj rq N x (i + Int32.ofInt 1) I3 r3) ∧ g_X4_readEither_L34 J rj rq (N + 1) 0 i I r = bnI (g_X4_readBehindOne I2 J r rj rq) fun (x : Int32) (I3 : Nat → Int32) (_ : Nat → Int64) (r3 : Nat → Nat → Int32) (_ : Nat → Nat → Int64) (_ : Nat → Nat → Option Nat) => g_X4_readEither_L34 J rj rq N x (i + Int32.ofInt 1) I3 r3 := by
  obtain ⟨⟨a1, a2, a3, a4, a5, a6⟩, ⟨b1, b2⟩, c1, d1, e1⟩ := h
  have hle := TKC_le ht
  obtain ⟨I2, i1, i2, i3, i4, i5, i6⟩ := adv_v (J := J) (ri := r) (rj := rj) (rq := rq) h3 a1 a3 a4 (by rw [a2]; exact ht)
  have ni : ¬ (300 : Int32) < i := fun q => by
    have := Int32.lt_iff_toInt_lt.mp q
    have k : (300 : Int32).toInt = 300 := by decide
    omega
  have fr : ∀ f, f ≠ 194 → f ≠ 195 → f ≠ 196 → f ≠ 197 → I2 f = I f := i6
  refine ⟨I2, ⟨i2, i3, i5⟩, ⟨⟨by rw [fr 193 (by decide) (by decide) (by decide) (by decide)]; exact a1, a2, i4, hle.2.2.1, by rw [fr 129 (by decide) (by decide) (by decide) (by decide)]; exact a5, by rw [fr 139 (by decide) (by decide) (by decide) (by decide)]; exact a6⟩, ⟨by rw [fr 134 (by decide) (by decide) (by decide) (by decide)]; exact b1, b2⟩, by rw [fr 135 (by decide) (by decide) (by decide) (by decide)]; exact c1, by rw [fr 136 (by decide) (by decide) (by decide) (by decide)]; exact d1, by rw [fr 138 (by decide) (by decide) (by decide) (by decide)]; exact e1⟩, ⟨fr 137 (by decide) (by decide) (by decide) (by decide), fr 132 (by decide) (by decide) (by decide) (by decide)⟩, fun d hd => ?_, ?_⟩
  · rw [g_X4_readEither_L34_e]
    try simp only [↓ap1_n]
    rw [if_neg ni, if_pos a5, if_pos a6, bv_n i1, if_neg hd]
  · rw [g_X4_readEither_L34_e]
    try simp only [↓ap1_n]
    rw [if_neg ni, if_pos a5, if_pos a6, bv_n i1]
    exact if_pos trivial
/-- the reference takes the next TOKEN -/
theorem RST_n {n : Nat} {T : Nat → Int32} (h3 : n ≤ 300) (hb : ∀ j, j < n → 0 ≤ (T j).toInt) {c v : Int32} {s e : Nat} {P : List Int32} {o : Nat} {I : Nat → Int32} {J1 : Nat → Int64} {r : Nat → Nat → Int32} (h : RST n T c v s e P o I J1 r) (hen : e ≤ n) {c' v' : Int32} {s' e' : Nat} (ht : TKC T n e c' s' e' v') : ∃ (I' : Nat → Int32) (J' : Nat → Int64), g_X12_nextToken_x I J1 r mj mq = (I', J', r, mj, mq) ∧ RST n T c' v' s' e' P o I' J' r ∧ ∀ f, f ≠ 391 → f ≠ 392 → f ≠ 393 → f ≠ 394 → I' f = I f := by
  obtain ⟨⟨a1, a2⟩, ⟨b1, b2, b3⟩, ⟨c1, c2⟩, d1⟩ := h
  obtain ⟨I', J', i1, i2, i3, i4, i5, i6⟩ := ntk_v (J := J1) (ri := r) (rj := mj) (rq := mq) h3 a1 b1 hen (by rw [a2]; exact hb) (by rw [a2]; exact ht)
  exact ⟨I', J', i1, ⟨⟨by rw [i5 388 (by decide) (by decide) (by decide) (by decide)]; exact a1, a2⟩, ⟨i2, i3, i4⟩, ⟨by rw [i5 401 (by decide) (by decide) (by decide) (by decide)]; exact c1, c2⟩, by rw [i5 402 (by decide) (by decide) (by decide) (by decide)]; exact d1⟩, i5⟩
theorem TKF_fr {I I' : Nat → Int32} {J1 : Nat → Int64} {c v : Int32} (h : TKF I J1 c v) (h1 : I' 393 = I 393) (h2 : I' 394 = I 394) : TKF I' J1 c v := by
  unfold TKF at h ⊢
  rw [h1, h2]
  exact h
theorem tm_nx {n : Nat} {T : Nat → Int32} (h3 : n ≤ 300) {c v c' v' : Int32} {s e s' e' : Nat} {P P' : List Int32} {o o' : Nat} {I I' : Nat → Int32} {J1 J' : Nat → Int64} {r r' : Nat → Nat → Int32} (h : RST n T c v s e P o I J1 r) (hc : c ≠ 33) (h' : RST n T c' v' s' e' P' o' I' J' r') (ht : TKC T n e c' s' e' v') : tmM (I' 391).toInt (I' 393).toInt < tmM (I 391).toInt (I 393).toInt ∧ 0 ≤ tmM (I' 391).toInt (I' 393).toInt := by
  obtain ⟨_, ⟨b1, b2, b3⟩, _, _⟩ := h
  obtain ⟨_, ⟨d1, d2, d3⟩, _, _⟩ := h'
  have hle := TKC_le ht
  have k0 : (0 : Int32).toInt = 0 := by decide
  have z : (I 393).toInt ≠ 0 := fun q => hc (b3.2.2.1.mp (Int32.toInt_inj.mp (q.trans k0.symm)))
  refine ⟨tm_lt z (by omega) ?_, tm_b (by omega)⟩
  by_cases q : s' < n
  · have := hle.2.2.2.2 q
    right; omega
  · left
    have c33 : c' = 33 := by
      rcases ht.2 with ⟨_, _, y⟩ | ⟨y, _⟩ | ⟨y, _⟩ | ⟨y, _⟩
      · exact y
      · exact absurd y q
      · exact absurd y q
      · exact absurd y q
    rw [d3.2.2.1.mpr c33]; exact k0
/-- how the reading of a SUM ends -/

def LOWF (F0 : Int32 × (Nat → Int32)) (bb : Int32) : (Nat → Int32) → (Nat → Nat → Int32) → Prop := fun I1 r1 => ∃ L : List (Int32 × Int32), FS I1 r1 = fmL bb F0 L ∧ L.length ≤ 700
theorem popF_len (a : Int32) : ∀ L : List Int32, (popF a L).length ≤ L.length
  | [] => Nat.le_refl _
  | x :: L => by
    by_cases h : g_X12_isIn_x x a 6 = 0
    · rw [popF_s h]; exact Nat.zero_le _
    · rw [popF_c h]
      exact Nat.succ_le_succ (popF_len a L)
def SRES (J : Nat → Int64) (rj : Nat → Nat → Int64) (rq : Nat → Nat → Option Nat) (mj : Nat → Nat → Int64) (mq : Nat → Nat → Option Nat) (n : Nat) (T : Nat → Int32) (S0 F0 : Int32 × (Nat → Int32)) (bb : Int32) (p0 : Nat) (B : List Int32) (ob : Nat) (cm : Int32) (X : vM) (Y : Int32 × vM) (tm0 : Int) : Prop := ∃ (f : Int32) (I1 : Nat → Int32) (J1 : Nat → Int64) (r1 : Nat → Nat → Int32), Y = (f, I1, J1, r1, mj, mq) ∧ ((f ≠ 0 ∧ ∃ s : Nat, (I1 392).toInt = (s : Int) ∧ FIN J rj rq f s X ∧ LOWF F0 bb I1 r1) ∨ (f = 0 ∧ ∃ (p2 : Nat) (c2 v2 : Int32) (s2 e2 N2 : Nat) (i2 : Int32) (I2 : Nat → Int32) (r2 : Nat → Nat → Int32) (Q : List Int32), X = g_X4_readEither_L34 J rj rq N2 0 i2 I2 r2 ∧ CST n p2 T (Q ++ B) (ob + cntO Q) 0 cm I2 r2 ∧ TKC T n p2 c2 s2 e2 v2 ∧ RST n T c2 v2 s2 e2 [] ob I1 J1 r1 ∧ (allR 5 Q ∧ Q.length ≤ 10 ∧ ob + cntO Q ≤ 8) ∧ ¬ (25 ≤ c2.toInt ∧ c2.toInt ≤ 28) ∧ (0 ≤ i2.toInt ∧ i2.toInt ≤ (p2 : Int)) ∧ (301 - i2.toInt).toNat < N2 ∧ tmM (I1 391).toInt (I1 393).toInt < tm0 ∧ ∃ E : List Int32, ES I2 r2 = emL S0 E ∧ FS I1 r1 = fmL bb F0 ((E ++ Q.map (fun x => -x)).map en) ∧ I1 396 = bb ∧ E.length + Q.length + p0 ≤ p2 ∧ eTr (E ++ Q.map (fun x => -x)) [] = some (false :: eTy B)))
theorem SRES_w {n : Nat} {T : Nat → Int32} {S0 F0 : Int32 × (Nat → Int32)} {bb : Int32} {p0 : Nat} {B : List Int32} {ob : Nat} {cm : Int32} {X : vM} {Y : Int32 × vM} {t0 t1 : Int} (h : SRES J rj rq mj mq n T S0 F0 bb p0 B ob cm X Y t0) (ht : t0 ≤ t1) : SRES J rj rq mj mq n T S0 F0 bb p0 B ob cm X Y t1 := by
  obtain ⟨f, I1, J1, r1, e, h⟩ := h
  refine ⟨f, I1, J1, r1, e, ?_⟩
  rcases h with y | ⟨y, p2, c2, v2, s2, e2, N2, i2, I2, r2, Q, a1, a2, a3, a4, a5, a6, a7, a8, a9, aE⟩
  · exact Or.inl y
  · exact Or.inr ⟨y, p2, c2, v2, s2, e2, N2, i2, I2, r2, Q, a1, a2, a3, a4, a5, a6, a7, a8, by omega, aE⟩
theorem cn_mem : ∀ P : List Int32, (40 : Int32) ∈ P ↔ 0 < cn40 P
  | [] => ⟨fun h => (by cases h), fun h => absurd h (Nat.lt_irrefl _)⟩
  | x :: P => by
    rw [List.mem_cons, cn_mem P]
    show _ ↔ 0 < (if x = 40 then 1 else 0) + cn40 P
    by_cases q : x = 40
    · rw [if_pos q]; exact ⟨fun _ => by omega, fun _ => Or.inl q.symm⟩
    · rw [if_neg q]
      constructor
      · rintro (h | h)
        · exact absurd h.symm q
        · omega
      · intro h; right; omega
theorem pop_none : ∀ (P : List Int32) (q : Nat), okP q P → (q ≠ 0 ∨ no2 P) → cn40 P = 0 → popM 3 P = [] ∧ cn2 P = 0 ∧ allR 5 (P.map mpc) ∧ cntO (P.map mpc) = 0 ∧ popF 3 P = ((P.map mpc).map (fun x => -x)).map en
  | [], _, _, _, _ => ⟨rfl, rfl, fun _ h => (by cases h), rfl, rfl⟩
  | x :: P, q, h, hq, hz => by
    have op : ∀ q2 : Nat, q2 ≠ 0 → (x = 3 ∨ x = 4 ∨ x = 5 ∨ x = 6) → okP q2 P → popM 3 (x :: P) = [] ∧ cn2 (x :: P) = 0 ∧ allR 5 ((x :: P).map mpc) ∧ cntO ((x :: P).map mpc) = 0 ∧ popF 3 (x :: P) = (((x :: P).map mpc).map (fun x => -x)).map en := fun q2 h2 hx ho => by
      obtain ⟨r1, r2, r3, r4, r5⟩ := rk_op hx
      rw [c40_n (opr_n hx).1] at hz
      obtain ⟨i1, i2, i3, i4, i5⟩ := pop_none P q2 ho (Or.inl h2) hz
      rw [popM_c r5, c2_n (opr_n hx).2, popF_c r5]
      refine ⟨i1, i2, fun y hy => ?_, ?_, by rw [i5, ← en_op hx]; rfl⟩
      · rcases List.mem_cons.mp hy with z | z
        · rw [z]; exact r3
        · exact i3 y z
      · show (if mpc x = 11 ∨ mpc x = 35 then 1 else 0) + cntO (P.map mpc) = 0
        rw [if_neg (show ¬ (mpc x = 11 ∨ mpc x = 35) from fun y => by rcases y with z | z; exact r1 z; exact r2 z), i4]
    rcases h with ⟨a, b⟩ | ⟨a, a2, b⟩ | ⟨a, a2, b⟩ | ⟨a, a2, b⟩
    · have : cn40 (x :: P) = 1 + cn40 P := by show (if x = 40 then 1 else 0) + cn40 P = _; rw [if_pos a]
      omega
    · rcases hq with y | y
      · exact absurd a2 y
      · exact absurd a y
    · exact op 1 (by decide) (by rcases a with z | z; exact Or.inr (Or.inr (Or.inl z)); exact Or.inr (Or.inr (Or.inr z))) b
    · exact op 2 (by decide) (by rcases a with z | z; exact Or.inl z; exact Or.inr (Or.inl z)) b
theorem rep_all : ∀ k : Nat, allR 5 (List.replicate k (35 : Int32)) ∧ cntO (List.replicate k (35 : Int32)) = k
  | 0 => ⟨fun _ h => (by cases h), rfl⟩
  | k + 1 => by
    obtain ⟨a, b⟩ := rep_all k
    rw [List.replicate_succ]
    refine ⟨fun y hy => ?_, ?_⟩
    · rcases List.mem_cons.mp hy with z | z
      · rw [z]; decide
      · exact a y z
    · show (if (35 : Int32) = 11 ∨ (35 : Int32) = 35 then 1 else 0) + cntO (List.replicate k 35) = k + 1
      rw [if_pos (Or.inr rfl), b]; omega
theorem all_app {a : Int32} : ∀ {Q R : List Int32}, allR a Q → allR a R → allR a (Q ++ R) ∧ cntO (Q ++ R) = cntO Q + cntO R
  | [], R, _, h => ⟨h, (Nat.zero_add _).symm⟩
  | x :: Q, R, h1, h2 => by
    obtain ⟨i1, i2⟩ := all_app (Q := Q) (R := R) (fun y hy => h1 y (List.mem_cons_of_mem _ hy)) h2
    refine ⟨fun y hy => ?_, ?_⟩
    · rcases List.mem_cons.mp hy with z | z
      · rw [z]; exact h1 x (List.mem_cons_self ..)
      · exact i1 y z
    · show (if x = 11 ∨ x = 35 then 1 else 0) + cntO (Q ++ R) = (if x = 11 ∨ x = 35 then 1 else 0) + cntO Q + cntO R
      rw [i2]; omega
/-- the reference behind a number or a NAME -/
theorem one_m {n : Nat} {T : Nat → Int32} (h3 : n ≤ 300) (hb : ∀ j, j < n → 0 ≤ (T j).toInt) {c v : Int32} {s e : Nat} {P : List Int32} {o : Nat} {I : Nat → Int32} {J1 : Nat → Int64} {r : Nat → Nat → Int32} (h : RST n T c v s e P o I J1 r) (hen : e ≤ n) (hP : P.length ≤ 200) (ho : cntW P ≤ o) (ho2 : o ≤ 100) {c' v' : Int32} {s' e' : Nat} (ht : TKC T n e c' s' e' v') (a b : Int32) : ∃ (I3 : Nat → Int32) (J3 : Nat → Int64) (r3 : Nat → Nat → Int32), (bnV (g_X12_emit a b I J1 r mj mq) fun (I4 : Nat → Int32) (_ : Nat → Int64) (r4 : Nat → Nat → Int32) (_ : Nat → Nat → Int64) (_ : Nat → Nat → Option Nat) => bnV (g_X12_nextToken_x I4 J1 r4 mj mq) fun (I5 : Nat → Int32) (J5 : Nat → Int64) (_ : Nat → Nat → Int32) (_ : Nat → Nat → Int64) (_ : Nat → Nat → Option Nat) => bnV (g_X12_whole I5 J5 r4 mj mq) fun (I6 : Nat → Int32) (_ : Nat → Int64) (r6 : Nat → Nat → Int32) (_ : Nat → Nat → Int64) (_ : Nat → Nat → Option Nat) => (((0 : Int32), I6, J5, r6, mj, mq) : Int32 × vM)) = (0, I3, J3, r3, mj, mq) ∧ RST n T c' v' s' e' (popW P) (o - cntW P) I3 J3 r3 ∧ I3 403 = 1 ∧ FS I3 r3 = fmL (I 396) (FS I r) ((a, b) :: List.replicate (cntW P) (2, 0)) ∧ I3 396 = I 396 := by
  obtain ⟨I4, r4, e1, e2, e3, e4⟩ := emit_m (J := J1) (ri := r) (rj := mj) (rq := mq) (a := a) (b := b) (I := I)
  rw [bv_n e1]
  have h4 : RST n T c v s e P o I4 J1 r4 := by
    obtain ⟨⟨a1, a2⟩, ⟨b1, b2, b3⟩, ⟨c1, c2⟩, d1⟩ := h
    exact ⟨⟨by rw [e2 388 (by decide)]; exact a1, by rw [e3 387 (by decide)]; exact a2⟩, ⟨by rw [e2 391 (by decide)]; exact b1, by rw [e2 392 (by decide)]; exact b2, TKF_fr b3 (e2 393 (by decide)) (e2 394 (by decide))⟩, ⟨by rw [e2 401 (by decide)]; exact c1, by rw [e3 400 (by decide)]; exact c2⟩, by rw [e2 402 (by decide)]; exact d1⟩
  obtain ⟨I5, J5, f1, f2, f3⟩ := RST_n (mj := mj) (mq := mq) h3 hb h4 hen ht
  rw [bv_n f1]
  obtain ⟨⟨a1, a2⟩, ⟨b1, b2, b3⟩, ⟨c1, c2⟩, d1⟩ := f2
  obtain ⟨I6, r6, w', g1, g2, g3, g4, g5, g6, g7, g8⟩ := whole_v (J := J5) (ri := r4) (rj := mj) (rq := mq) c1 (by omega) (by rw [c2]; omega) (by omega)
  rw [bv_n g1]
  rw [c2] at g3 g4 g8
  have z396 : I5 396 = I 396 := (f3 396 (by decide) (by decide) (by decide) (by decide)).trans (e2 396 (by decide))
  have zF : FS I5 r4 = FS I4 r4 := FS_eq (f3 398 (by decide) (by decide) (by decide) (by decide)) rfl
  rw [z396, zF, e4] at g8
  have lw : w' = (popW P).length := by rw [← g3, stl_len]
  subst lw
  exact ⟨I6, J5, r6, rfl, ⟨⟨by rw [g6 388 (by decide) (by decide) (by decide) (by decide)]; exact a1, by rw [g7 387 (by decide)]; exact a2⟩, ⟨by rw [g6 391 (by decide) (by decide) (by decide) (by decide)]; exact b1, by rw [g6 392 (by decide) (by decide) (by decide) (by decide)]; exact b2, TKF_fr b3 (g6 393 (by decide) (by decide) (by decide) (by decide)) (g6 394 (by decide) (by decide) (by decide) (by decide))⟩, ⟨g2, g3⟩, by omega⟩, g5, g8, (g6 396 (by decide) (by decide) (by decide) (by decide)).trans z396⟩
/-- the reference behind a sign that settles, and is piled -/
theorem op_m {n : Nat} {T : Nat → Int32} {c v : Int32} {s e : Nat} {P : List Int32} {o : Nat} {I : Nat → Int32} {J1 : Nat → Int64} {r : Nat → Nat → Int32} (h : RST n T c v s e P o I J1 r) (hP : P.length ≤ 200) (a b : Int32) : ∃ (I3 : Nat → Int32) (r3 : Nat → Nat → Int32), (bnV (g_X12_settle a I J1 r mj mq) fun (I4 : Nat → Int32) (_ : Nat → Int64) (r4 : Nat → Nat → Int32) (_ : Nat → Nat → Int64) (_ : Nat → Nat → Option Nat) => bnV (g_X12_push b I4 J1 r4 mj mq) fun (I5 : Nat → Int32) (_ : Nat → Int64) (r5 : Nat → Nat → Int32) (_ : Nat → Nat → Int64) (_ : Nat → Nat → Option Nat) => ((va_up I5 403 0, J1, r5, mj, mq) : vM)) = (I3, J1, r3, mj, mq) ∧ RST n T c v s e (b :: popM a P) o I3 J1 r3 ∧ I3 403 = 0 ∧ FS I3 r3 = fmL (I 396) (FS I r) (popF a P) ∧ I3 396 = I 396 := by
  obtain ⟨⟨a1, a2⟩, ⟨b1, b2, b3⟩, ⟨c1, c2⟩, d1⟩ := h
  obtain ⟨I4, r4, w', g1, g2, g3, g4, g5, g6⟩ := setM_v (J := J1) (ri := r) (rj := mj) (rq := mq) (a := a) c1 (by omega)
  rw [bv_n g1]
  rw [c2] at g3 g6
  have lw : w' = (popM a P).length := by rw [← g3, stl_len]
  subst lw
  rw [bv_n (push_m g2)]
  have hl : (b :: popM a P).length = (popM a P).length + 1 := rfl
  have pl : (popM a P).length ≤ P.length := by
    have : ∀ L : List Int32, (popM a L).length ≤ L.length := fun L => by
      induction L with
      | nil => exact Nat.le_refl _
      | cons x L ih =>
        by_cases q : g_X12_isIn_x x a 6 = 0
        · rw [popM_s q]; exact Nat.le_refl _
        · rw [popM_c q]; exact Nat.le_succ_of_le ih
    exact this P
  have z : ∀ f, f ≠ 398 → f ≠ 401 → f ≠ 403 → va_up (va_up I4 401 (I4 401 + 1)) 403 0 f = I f := fun f f1 f2 f3 => by rw [va_up_ne _ _ f3, va_up_ne _ _ f2]; exact g4 f f1 f2
  refine ⟨_, _, rfl, ⟨⟨by rw [z 388 (by decide) (by decide) (by decide)]; exact a1, by rw [va_up_ne _ _ (show (387 : Nat) ≠ 400 by decide), g5 387 (by decide)]; exact a2⟩, ⟨by rw [z 391 (by decide) (by decide) (by decide)]; exact b1, by rw [z 392 (by decide) (by decide) (by decide)]; exact b2, TKF_fr b3 (z 393 (by decide) (by decide) (by decide)) (z 394 (by decide) (by decide) (by decide))⟩, ⟨?_, ?_⟩, by rw [z 402 (by decide) (by decide) (by decide)]; exact d1⟩, va_up_self _ _ _, ?_, z 396 (by decide) (by decide) (by decide)⟩
  · rw [va_up_ne _ _ (show (401 : Nat) ≠ 403 by decide), va_up_self, hl]
    exact upN g2 (by omega)
  · rw [va_up_self, hl, stl_push, g3]
  · rw [FS_I (by decide), FS_I (by decide)]
    exact (FS_eq rfl (va_up_ne _ _ (by decide))).trans g6
end PR7
