/-! ===== pure: an ASK, an EITHER, both sides ===== -/
section PR9
variable {J : Nat → Int64} {rj : Nat → Nat → Int64} {rq : Nat → Nat → Option Nat} {mj : Nat → Nat → Int64} {mq : Nat → Nat → Option Nat}
/-- a SUM begins -/
theorem sum_0 {n : Nat} {T : Nat → Int32} {c v : Int32} {s e : Nat} {P : List Int32} {o : Nat} {I : Nat → Int32} {J1 : Nat → Int64} {r : Nat → Nat → Int32} (h : RST n T c v s e P o I J1 r) : ∃ I' : Nat → Int32, g_X12_sum I J1 r mj mq = g_X12_sum_L10 mj mq ((tmM (I' 391).toInt (I' 393).toInt).toNat + 1) I' J1 r ∧ RST n T c v s e [] o I' J1 r ∧ I' 403 = 0 ∧ I' 391 = I 391 ∧ I' 393 = I 393 ∧ I' 398 = I 398 ∧ I' 396 = I 396 := by
  obtain ⟨⟨a1, a2⟩, ⟨b1, b2, b3⟩, _, d1⟩ := h
  rw [g_X12_sum_e]
  try simp only [↓ap1_n]
  have z : ∀ f, f ≠ 401 → f ≠ 403 → va_up (va_up I 401 0) 403 0 f = I f := fun f h1 h2 => by rw [va_up_ne _ _ h2, va_up_ne _ _ h1]
  refine ⟨va_up (va_up I 401 0) 403 0, rfl, ⟨⟨by rw [z 388 (by decide) (by decide)]; exact a1, a2⟩, ⟨by rw [z 391 (by decide) (by decide)]; exact b1, by rw [z 392 (by decide) (by decide)]; exact b2, TKF_fr b3 (z 393 (by decide) (by decide)) (z 394 (by decide) (by decide))⟩, ⟨?_, rfl⟩, by rw [z 402 (by decide) (by decide)]; exact d1⟩, va_up_self _ _ _, z 391 (by decide) (by decide), z 393 (by decide) (by decide), z 398 (by decide) (by decide), z 396 (by decide) (by decide)⟩
  rw [va_up_ne _ _ (show (401 : Nat) ≠ 403 by decide), va_up_self]
  decide
/-- what waits ahead of an ASK: and, or -/
def okB (B : List Int32) : Prop := B = [] ∨ B = [9] ∨ B = [10] ∨ B = [10, 9]
theorem okB_l {B : List Int32} (h : okB B) : B.length ≤ 2 := by
  rcases h with h | h | h | h <;> rw [h] <;> decide
theorem okB_p {B : List Int32} (h : okB B) : popR 4 B = B ∧ popN 4 B = 0 ∧ stB B ∧ (popR 2 B = [] ∨ popR 2 B = [9]) ∧ popN 2 B = 0 ∧ popR 1 B = [] ∧ popN 1 B = 0 := by
  have r9 : ¬ g_X4_rank 9 < 1 := by decide
  have r92 : g_X4_rank 9 < 2 := by decide
  have r94 : g_X4_rank 9 < 4 := by decide
  have r10 : ¬ g_X4_rank 10 < 1 := by decide
  have r102 : ¬ g_X4_rank 10 < 2 := by decide
  have r104 : g_X4_rank 10 < 4 := by decide
  have z9 : (if (9 : Int32) = 11 ∨ (9 : Int32) = 35 then 1 else 0) = 0 := by decide
  have z10 : (if (10 : Int32) = 11 ∨ (10 : Int32) = 35 then 1 else 0) = 0 := by decide
  rcases h with h | h | h | h <;> rw [h]
  · exact ⟨rfl, rfl, trivial, Or.inl rfl, rfl, rfl, rfl⟩
  · exact ⟨popR_s r94, popN_s r94, show g_X4_rank 9 < 5 ∧ g_X4_rank 9 < 6 by decide, Or.inr (popR_s r92), popN_s r92, popR_c r9, by rw [popN_c r9, z9]; rfl⟩
  · exact ⟨popR_s r104, popN_s r104, show g_X4_rank 10 < 5 ∧ g_X4_rank 10 < 6 by decide, Or.inl (popR_c r102), by rw [popN_c r102, z10]; rfl, popR_c r10, by rw [popN_c r10, z10]; rfl⟩
  · exact ⟨popR_s r104, popN_s r104, show g_X4_rank 10 < 5 ∧ g_X4_rank 10 < 6 by decide, Or.inr ((popR_c r102).trans (popR_s r92)), by rw [popN_c r102, z10, popN_s r92, Nat.zero_add], (popR_c r10).trans (popR_c r9), by rw [popN_c r10, z10, popN_c r9, z9]; rfl⟩
theorem nots_p {B : List Int32} (h : okB B) : ∀ t : Nat, popR 4 (List.replicate t 11 ++ B) = List.replicate t 11 ++ B ∧ popN 4 (List.replicate t 11 ++ B) = 0 ∧ stB (List.replicate t 11 ++ B)
  | 0 => ⟨(okB_p h).1, (okB_p h).2.1, (okB_p h).2.2.1⟩
  | t + 1 => by
    rw [List.replicate_succ, List.cons_append]
    exact ⟨popR_s (show g_X4_rank 11 < 4 by decide), popN_s (show g_X4_rank 11 < 4 by decide), show g_X4_rank 11 < 5 ∧ g_X4_rank 11 < 6 by decide⟩
theorem nots_a : ∀ t : Nat, allR 3 (List.replicate t (11 : Int32)) ∧ cntO (List.replicate t (11 : Int32)) = t
  | 0 => ⟨fun _ h => (by cases h), rfl⟩
  | t + 1 => by
    obtain ⟨a, b⟩ := nots_a t
    rw [List.replicate_succ]
    refine ⟨fun y hy => ?_, ?_⟩
    · rcases List.mem_cons.mp hy with z | z
      · rw [z]; decide
      · exact a y z
    · show (if (11 : Int32) = 11 ∨ (11 : Int32) = 35 then 1 else 0) + cntO (List.replicate t 11) = t + 1
      rw [if_pos (Or.inl rfl), b]; omega
theorem allR_le {a b : Int32} (h : a.toInt ≤ b.toInt) {Q : List Int32} (hQ : allR b Q) : allR a Q := fun x hx y => hQ x hx (Int32.lt_iff_toInt_lt.mpr (by have := Int32.lt_iff_toInt_lt.mp y; omega))
theorem cm_rank {c : Int32} (h : 19 ≤ c.toInt ∧ c.toInt ≤ 24) : g_X4_rank c = 4 ∧ ¬ cmC c < 0 ∧ c ≠ 11 ∧ c ≠ 35 := by
  have d : c.toInt = 19 ∨ c.toInt = 20 ∨ c.toInt = 21 ∨ c.toInt = 22 ∨ c.toInt = 23 ∨ c.toInt = 24 := by omega
  rcases d with d | d | d | d | d | d
  · rw [to_k (c := c) (k := 19) d (by decide)]; decide
  · rw [to_k (c := c) (k := 20) d (by decide)]; decide
  · rw [to_k (c := c) (k := 21) d (by decide)]; decide
  · rw [to_k (c := c) (k := 22) d (by decide)]; decide
  · rw [to_k (c := c) (k := 23) d (by decide)]; decide
  · rw [to_k (c := c) (k := 24) d (by decide)]; decide
theorem cm_lt {c : Int32} (h : ¬ (19 ≤ c.toInt ∧ c.toInt ≤ 24)) : cmC c < 0 := by
  have k : ∀ x : Int32, 19 ≤ x.toInt ∧ x.toInt ≤ 24 → ¬ c = x := fun x y z => h (by rw [z]; exact y)
  unfold cmC
  rw [if_neg (k 19 (by decide)), if_neg (k 20 (by decide)), if_neg (k 21 (by decide)), if_neg (k 22 (by decide)), if_neg (k 23 (by decide)), if_neg (k 24 (by decide))]
  decide
theorem en_11 : en (-11) = (20, 0) := by decide
theorem en_cm {c : Int32} (h : 19 ≤ c.toInt ∧ c.toInt ≤ 24) : en (-c) = (cmC c, 0) := by
  have d : c.toInt = 19 ∨ c.toInt = 20 ∨ c.toInt = 21 ∨ c.toInt = 22 ∨ c.toInt = 23 ∨ c.toInt = 24 := by omega
  rcases d with d | d | d | d | d | d
  · rw [to_k (c := c) (k := 19) d (by decide)]; decide
  · rw [to_k (c := c) (k := 20) d (by decide)]; decide
  · rw [to_k (c := c) (k := 21) d (by decide)]; decide
  · rw [to_k (c := c) (k := 22) d (by decide)]; decide
  · rw [to_k (c := c) (k := 23) d (by decide)]; decide
  · rw [to_k (c := c) (k := 24) d (by decide)]; decide
theorem popE_nil {a : Int32} {L : List Int32} (h : popR a L = L) : popE a L = [] := List.eq_nil_of_length_eq_zero (by
  have := popE_len (a := a) L
  rw [h] at this
  omega)
/-- how the reading of an ASK, of an EITHER ends -/
def ARES (J : Nat → Int64) (rj : Nat → Nat → Int64) (rq : Nat → Nat → Option Nat) (mj : Nat → Nat → Int64) (mq : Nat → Nat → Option Nat) (n : Nat) (T : Nat → Int32) (S0 F0 : Int32 × (Nat → Int32)) (bb : Int32) (p0 : Nat) (B : List Int32) (o : Nat) (X : vM) (Y : Int32 × vM) (tm0 : Int) : Prop := ∃ (f : Int32) (I1 : Nat → Int32) (J1 : Nat → Int64) (r1 : Nat → Nat → Int32), Y = (f, I1, J1, r1, mj, mq) ∧ ((f ≠ 0 ∧ ∃ s : Nat, (I1 392).toInt = (s : Int) ∧ FIN J rj rq f s X ∧ LOWF F0 bb I1 r1) ∨ (f = 0 ∧ ∃ (p2 : Nat) (c2 v2 : Int32) (s2 e2 N2 : Nat) (i2 : Int32) (I2 : Nat → Int32) (r2 : Nat → Nat → Int32) (Q P2 : List Int32), X = g_X4_readEither_L34 J rj rq N2 0 i2 I2 r2 ∧ CST n p2 T (Q ++ B) (o + cntO Q) 0 1 I2 r2 ∧ TKC T n p2 c2 s2 e2 v2 ∧ RST n T c2 v2 s2 e2 P2 o I1 J1 r1 ∧ allR 3 Q ∧ Q.length ≤ 36 ∧ cntO Q + o ≤ 8 ∧ ¬ (25 ≤ c2.toInt ∧ c2.toInt ≤ 28) ∧ (0 ≤ i2.toInt ∧ i2.toInt ≤ (p2 : Int)) ∧ (301 - i2.toInt).toNat < N2 ∧ tmM (I1 391).toInt (I1 393).toInt < tm0 ∧ ∃ E : List Int32, ES I2 r2 = emL S0 E ∧ FS I1 r1 = fmL bb F0 ((E ++ Q.map (fun x => -x)).map en) ∧ I1 396 = bb ∧ E.length + Q.length + p0 ≤ p2 ∧ eTr (E ++ Q.map (fun x => -x)) [] = some (true :: eTy B)))
theorem nots_L {x : Int32} {J1 : Nat → Int64} {t : Nat} (hx : x.toInt = (t : Int)) (ht : t ≤ 100) : ∀ (m : Nat) (y : Int32) (k : Nat) (I : Nat → Int32) (r : Nat → Nat → Int32), y.toInt = (k : Int) → k ≤ t → t - k < m → ∃ (I' : Nat → Int32) (r' : Nat → Nat → Int32), g_X12_ask_L105 mj mq x J1 m y I r = (0, I', J1, r', mj, mq) ∧ (∀ f, f ≠ 398 → I' f = I f) ∧ (∀ q, q ≠ 384 → r' q = r q) ∧ FS I' r' = fmL (I 396) (FS I r) (List.replicate (t - k) (20, 0)) := by
  intro m
  induction m with
  | zero => intro _ _ _ _ _ _ h; exact absurd h (Nat.not_lt_zero _)
  | succ m ih =>
    intro y k I r hy hk hm
    rw [g_X12_ask_L105_e]
    try simp only [↓ap1_n]
    by_cases c : x ≤ y
    · have c0 : t ≤ k := (le_n hx hy).mp c
      rw [if_pos c]
      exact ⟨I, r, rfl, fun _ _ => rfl, fun _ _ => rfl, by rw [show t - k = 0 by omega]; rfl⟩
    · have c1 : ¬ t ≤ k := fun q => c ((le_n hx hy).mpr q)
      rw [if_neg c]
      obtain ⟨I3, r3, e1, e2, e3, e4⟩ := emit_m (J := J1) (ri := r) (rj := mj) (rq := mq) (a := 20) (b := 0) (I := I)
      rw [bv_n e1]
      obtain ⟨I', r', i1, i2, i3, i4⟩ := ih (y + Int32.ofInt 1) (k + 1) I3 r3 (up_i hy (by omega)) (by omega) (by omega)
      rw [e4, e2 396 (by decide)] at i4
      exact ⟨I', r', i1, fun f hf => (i2 f hf).trans (e2 f hf), fun q hq => (i3 q hq).trans (e3 q hq), by rw [show t - k = (t - (k + 1)) + 1 by omega, List.replicate_succ]; exact i4⟩
theorem RST_fr {n : Nat} {T : Nat → Int32} {c v : Int32} {s e : Nat} {P : List Int32} {o : Nat} {I I' : Nat → Int32} {J1 : Nat → Int64} {r r' : Nat → Nat → Int32} (h : RST n T c v s e P o I J1 r) (hI : ∀ f, f ≠ 398 → I' f = I f) (hr : ∀ q, q ≠ 384 → r' q = r q) : RST n T c v s e P o I' J1 r' := by
  obtain ⟨⟨a1, a2⟩, ⟨b1, b2, b3⟩, ⟨c1, c2⟩, d1⟩ := h
  exact ⟨⟨by rw [hI 388 (by decide)]; exact a1, by rw [hr 387 (by decide)]; exact a2⟩, ⟨by rw [hI 391 (by decide)]; exact b1, by rw [hI 392 (by decide)]; exact b2, TKF_fr b3 (hI 393 (by decide)) (hI 394 (by decide))⟩, ⟨by rw [hI 401 (by decide)]; exact c1, by rw [hr 400 (by decide)]; exact c2⟩, by rw [hI 402 (by decide)]; exact d1⟩
theorem no_33 {T : Nat → Int32} {n p s e : Nat} {c v : Int32} (ht : TKC T n p c s e v) (q : c ≠ 33) : s < n := by
  rcases ht.2 with ⟨_, _, w3⟩ | ⟨w1, _⟩ | ⟨w1, _⟩ | ⟨w1, _⟩
  · exact absurd w3 q
  · exact w1
  · exact w1
  · exact w1
theorem ask_sim {n : Nat} {T : Nat → Int32} (h3 : n ≤ 300) (hb : ∀ j, j < n → 0 ≤ (T j).toInt) {B : List Int32} (hB : okB B) {o0 : Nat} {S0 F0 : Int32 × (Nat → Int32)} {bb : Int32} {p0 : Nat} : ∀ (k : Nat) (N : Nat) (i x : Int32) (I : Nat → Int32) (r : Nat → Nat → Int32) (m : Nat) (I' : Nat → Int32) (J' : Nat → Int64) (r' : Nat → Nat → Int32) (P : List Int32) (t p : Nat) (c v : Int32) (s e : Nat), n - p < k → CST n p T (List.replicate t 11 ++ B) (o0 + t) 0 0 I r → I 137 ≠ 0 → TKC T n p c s e v → RST n T c v s e P (o0 + t) I' J' r' → x.toInt = (t : Int) → o0 + t ≤ 8 → 0 ≤ i.toInt → i.toInt ≤ (p : Int) → (301 - i.toInt).toNat < N → (tmM (I' 391).toInt (I' 393).toInt).toNat < m → ∀ E : List Int32, ES I r = emL S0 E → FS I' r' = fmL bb F0 (E.map en) → I' 396 = bb → E.length + t + p0 ≤ p → eTr E [] = some (eTy B) → ∀ d : Int32, d ≠ 0 → ARES J rj rq mj mq n T S0 F0 bb p0 B o0 (g_X4_readEither_L34 J rj rq N d i I r) (g_X12_ask_L2 r' mj mq m x I' J') (tmM (I' 391).toInt (I' 393).toInt) := by
  intro k
  induction k with
  | zero => intro _ _ _ _ _ _ _ _ _ _ _ _ _ _ _ _ h; exact absurd h (Nat.not_lt_zero _)
  | succ k ih =>
    intro N i x I r m I' J' r' P t p c v s e hk hC haa ht hR hx ho hi0 hip hN hm E hE hF hbb hEl hTr d hd
    have hle := TKC_le ht
    have bl := okB_l hB
    cases m with
    | zero => exact absurd hm (Nat.not_lt_zero _)
    | succ m =>
    have hR' := hR
    obtain ⟨⟨a1, a2⟩, ⟨b1, b2, b3⟩, ⟨c1, c2⟩, d1⟩ := hR'
    rw [g_X12_ask_L2_e]
    try simp only [↓ap1_n]
    rw [bn_n (word_not b3)]
    by_cases q : c = 11
    · -- not
      have hs := no_33 ht (by rw [q]; decide)
      have hse := hle.2.2.2.2 hs
      have i1 : (i + Int32.ofInt 1).toInt = i.toInt + 1 := t1_inc (by omega) (by omega)
      rw [if_pos q, if_neg (show ¬ (1 : Int32) = 0 by decide)]
      cases N with
      | zero => exact absurd hN (Nat.not_lt_zero _)
      | succ N =>
      obtain ⟨I2, ⟨g1, g2, g3⟩, hC2, ⟨hA, hA2⟩, hD, _⟩ := CL_s (J := J) (rj := rj) (rq := rq) h3 hC ht (i := i) (by omega) N
      rw [hD d hd]
      have hC2' := hC2
      obtain ⟨⟨z1, z2, z3, z4, z5, z6⟩, ⟨y1, y2⟩, x1, x2, x3⟩ := hC2'
      have lenL : (List.replicate t (11 : Int32) ++ B).length = t + B.length := by rw [List.length_append, List.length_replicate]
      have op : (I2 194 = 26 ∧ (11 : Int32) = 35) ∨ (I2 194 = 29 ∧ (11 : Int32) = 29) ∨ (I2 194 = 11 ∧ I2 137 ≠ 0 ∧ (11 : Int32) = 11) := Or.inr (Or.inr ⟨by rw [g1, q], by rw [hA]; exact haa, rfl⟩)
      have k8 : (8 : Int32).toInt = ((8 : Nat) : Int) := by decide
      by_cases q8 : o0 + t = 8
      · rw [if_pos ((eq_n d1 k8).mpr q8)]
        obtain ⟨K, rk, e1, e2⟩ := open_f (J := J) (ri := r) (rj := rj) (rq := rq) (t := 11) z5 (by omega)
        rw [bn_n (ro_op op e1)]
        exact ⟨3, I', J', r', rfl, Or.inl ⟨by decide, s, b2, FIN_f e2 g2 (by decide), E.map en, hF, by rw [List.length_map]; omega⟩⟩
      · rw [if_neg (fun y => q8 ((eq_n d1 k8).mp y))]
        obtain ⟨K, e1, e2, e3, e4, e5, e6⟩ := open_v (J := J) (ri := r) (rj := rj) (rq := rq) (t := 11) (Or.inr (Or.inl rfl)) x1 (by omega) y1 (by omega)
        rw [bn_n (ro_op op e1)]
        obtain ⟨c', s', e', v', ht'⟩ := TKC_ex T hC2.1.2.2.2.1
        have zz : ∀ f, f ≠ 402 → va_up I' 402 (I' 402 + 1) f = I' f := fun f f1 => va_up_ne _ _ f1
        have hR2 : RST n T c v s e P (o0 + (t + 1)) (va_up I' 402 (I' 402 + 1)) J' r' := ⟨⟨by rw [zz 388 (by decide)]; exact a1, a2⟩, ⟨by rw [zz 391 (by decide)]; exact b1, by rw [zz 392 (by decide)]; exact b2, TKF_fr b3 (zz 393 (by decide)) (zz 394 (by decide))⟩, ⟨by rw [zz 401 (by decide)]; exact c1, c2⟩, by rw [va_up_self]; exact (upN (p := o0 + t) d1 (by omega))⟩
        obtain ⟨I5, J5, f1, f2, f3⟩ := RST_n (mj := mj) (mq := mq) h3 hb hR2 hle.2.2.1 ht'
        rw [bv_n f1]
        obtain ⟨n1, n2⟩ := tm_nx h3 hR (by rw [q]; decide) f2 ht'
        have hC3 : CST n e T (List.replicate (t + 1) 11 ++ B) (o0 + (t + 1)) 0 0 K (va_up r 133 (upd (r 133) (List.replicate t (11 : Int32) ++ B).length 11)) := by
          rw [List.replicate_succ]
          show CST n e T (11 :: (List.replicate t 11 ++ B)) (o0 + (t + 1)) 0 0 K _
          refine ⟨⟨by rw [e6 193 (by decide) (by decide) (by decide) (by decide)]; exact z1, by rw [va_up_ne _ _ (show (192 : Nat) ≠ 133 by decide)]; exact z2, by rw [e6 197 (by decide) (by decide) (by decide) (by decide)]; exact z3, z4, by rw [e6 129 (by decide) (by decide) (by decide) (by decide)]; exact z5, by rw [e6 139 (by decide) (by decide) (by decide) (by decide)]; exact z6⟩, ⟨e3, ?_⟩, e2, ?_, by rw [e6 138 (by decide) (by decide) (by decide) (by decide)]; exact x3⟩
          · show stl _ ((List.replicate t (11 : Int32) ++ B).length + 1) = _
            rw [va_up_self, stl_push, y2]
          · rw [e4, if_neg (show ¬ (11 : Int32) = 29 by decide)]; exact x2
        have a137 : K 137 ≠ 0 := by rw [e5, if_pos (rfl : (11 : Int32) = 11)]; decide
        have hE3 : ES K (va_up r 133 (upd (r 133) (List.replicate t (11 : Int32) ++ B).length 11)) = emL S0 E := (ES_eq (e6 132 (by decide) (by decide) (by decide) (by decide)) (va_up_ne _ _ (by decide))).trans ((ES_eq hA2 rfl).trans hE)
        have hF3 : FS I5 r' = fmL bb F0 (E.map en) := (FS_eq ((f3 398 (by decide) (by decide) (by decide) (by decide)).trans (zz 398 (by decide))) rfl).trans hF
        have hb3 : I5 396 = bb := ((f3 396 (by decide) (by decide) (by decide) (by decide)).trans (zz 396 (by decide))).trans hbb
        obtain ⟨f, I1, J1, r1, ee, hh⟩ := ih N (i + Int32.ofInt 1) (x + Int32.ofInt 1) K _ m I5 J5 r' P (t + 1) e c' v' s' e' (by omega) hC3 a137 ht' f2 (up_i hx (by omega)) (by omega) (by omega) (by omega) (by omega) (by omega) E hE3 hF3 hb3 (by omega) hTr 1 (by decide)
        refine ⟨f, I1, J1, r1, ee, ?_⟩
        rcases hh with y | ⟨y, p2, c2', v2, s2, e2', N2, i2, I2', r2, Q, P2, w1, w2, w3, w4, w5, w6, w7, w8, w9, w10, w11, wE⟩
        · exact Or.inl y
        · exact Or.inr ⟨y, p2, c2', v2, s2, e2', N2, i2, I2', r2, Q, P2, w1, w2, w3, w4, w5, w6, w7, w8, w9, w10, by omega, wE⟩
    · -- SUM, a comparison, SUM
      rw [if_neg q, if_pos (show (0 : Int32) = 0 from rfl)]
      obtain ⟨np1, np2, np3⟩ := nots_p hB t
      obtain ⟨Ia, u1, u2, u3, u4, u5, u6, u7⟩ := sum_0 (mj := mj) (mq := mq) hR
      rw [u1]
      have lenB : (List.replicate t (11 : Int32) ++ B).length = t + B.length := by rw [List.length_append, List.length_replicate]
      have r1 := (sum_sim (J := J) (rj := rj) (rq := rq) (mj := mj) (mq := mq) h3 hb np3 (by omega) (cm := 0) (ob := o0 + t) (S0 := S0) (F0 := F0) (bb := bb) (p0 := p0 + t) (k + 1)).1 N i I r _ Ia J' r' [] (o0 + t) p c v s e hk hC ht u2 u3 trivial rfl ho (Or.inr q) hi0 hip hN (Nat.lt_succ_self _) E hE ((FS_eq u6 rfl).trans hF) (u7.trans hbb) (by show E.length + 0 + (p0 + t) ≤ p; omega) (by show eTr E [] = some (eTy (List.replicate t 11 ++ B)); rw [eTy_rep (Or.inl rfl)]; exact hTr) d hd
      obtain ⟨f, I1, J1, rr1, ee, hh⟩ := r1
      rw [ee, bn_n rfl]
      rcases hh with ⟨y, s0, y1, y2⟩ | ⟨y, p2, cc, v2, s2, e2, N2, i2, I2, r2, Q, w1, w2, w3, w4, ⟨w5, w5l, w5c⟩, w6, w7, w8, w9, E1, hE1, hF1, hb1, hl1, ht1⟩
      · rw [if_neg y]
        exact ⟨f, I1, J1, rr1, rfl, Or.inl ⟨y, s0, y1, y2⟩⟩
      · subst y
        rw [if_pos (show (0 : Int32) = 0 from rfl), bn_n (comp_m w4.2.1.2.2), w1]
        have hle2 := TKC_le w3
        cases N2 with
        | zero => exact absurd w8 (Nat.not_lt_zero _)
        | succ N2 =>
        have p2n := w2.1.2.2.2.1
        obtain ⟨I3, ⟨g1, g2, g3⟩, hC3, ⟨hA3, hA4⟩, _, hD3⟩ := CL_s (J := J) (rj := rj) (rq := rq) h3 w2 w3 (i := i2) (by omega) N2
        have hC3' := hC3
        obtain ⟨⟨z1, z2, z3, z4, z5, z6⟩, ⟨y1, y2⟩, x1, x2, x3⟩ := hC3'
        by_cases qc : 19 ≤ cc.toInt ∧ cc.toInt ≤ 24
        · obtain ⟨cr1, cr2, cr3, cr4⟩ := cm_rank qc
          have hs := no_33 w3 (fun z => by rw [z] at qc; exact absurd qc.2 (by decide))
          have hse := hle2.2.2.2.2 hs
          have i1 : (i2 + Int32.ofInt 1).toInt = i2.toInt + 1 := t1_inc (by omega) (by omega)
          rw [if_pos (show (0 : Int32) ≤ cmC cc from Int32.not_lt.mp cr2)]
          obtain ⟨c', s', e', v', ht'⟩ := TKC_ex T hC3.1.2.2.2.1
          obtain ⟨I5, J5, f1, f2, f3⟩ := RST_n (mj := mj) (mq := mq) h3 hb w4 hle2.2.2.1 ht'
          rw [bv_n f1]
          obtain ⟨n1, n2⟩ := tm_nx h3 w4 (fun z => by rw [z] at qc; exact absurd qc.2 (by decide)) f2 ht'
          obtain ⟨pa1, pa2, pa3⟩ := pop_all (a := 4) (L := List.replicate t 11 ++ B) Q (allR_le (by decide) w5)
          rw [np1] at pa1
          rw [np2, Nat.add_zero] at pa2
          rw [popE_nil np1, List.append_nil] at pa3
          have lQ : (Q ++ (List.replicate t (11 : Int32) ++ B)).length = Q.length + (t + B.length) := by rw [List.length_append, lenB]
          obtain ⟨K, rk, e1, e2q, e3, e4, e5, e6, e7⟩ := sa_v (J := J) (ri := r2) (rj := rj) (rq := rq) (a := 4) (c := cc) (K := va_up (va_up I3 137 0) 138 1) (w := (Q ++ (List.replicate t 11 ++ B)).length) (o := o0 + t + cntO Q) (by rw [va_up_ne _ _ (show (134 : Nat) ≠ 138 by decide), va_up_ne _ _ (show (134 : Nat) ≠ 137 by decide)]; exact y1) (by omega) (by rw [va_up_ne _ _ (show (135 : Nat) ≠ 138 by decide), va_up_ne _ _ (show (135 : Nat) ≠ 137 by decide)]; exact x1) (by rw [y2, pa2]; omega) (by omega)
          rw [y2, pa1] at e2q e3
          rw [y2, pa3, ES_I (by decide), ES_I (by decide), ES_eq hA4 rfl, hE1, ← emL_app] at e7
          rw [y2, pa2] at e4
          rw [hD3, rb_cmp (by rw [g1]; exact qc) (by rw [x2]; decide) x3, g1, cr1, bn_n e1]
          have fr : ∀ f, f ≠ 132 → f ≠ 134 → f ≠ 135 → f ≠ 137 → f ≠ 138 → K f = I3 f := fun f h1 h2 h3 h4 h5 => by rw [e5 f h1 h2 h3, va_up_ne _ _ h5, va_up_ne _ _ h4]
          have k137 : K 137 = 0 := by rw [e5 137 (by decide) (by decide) (by decide), va_up_ne _ _ (show (137 : Nat) ≠ 138 by decide), va_up_self]
          have hC4 : CST n e2 T (([] : List Int32).map mpc ++ (cc :: (List.replicate t 11 ++ B))) (o0 + t) (cn40 []) 1 K rk := ⟨⟨by rw [fr 193 (by decide) (by decide) (by decide) (by decide) (by decide)]; exact z1, by rw [e6 192 (by decide) (by decide)]; exact z2, by rw [fr 197 (by decide) (by decide) (by decide) (by decide) (by decide)]; exact z3, z4, by rw [fr 129 (by decide) (by decide) (by decide) (by decide) (by decide)]; exact z5, by rw [fr 139 (by decide) (by decide) (by decide) (by decide) (by decide)]; exact z6⟩, ⟨e2q, e3⟩, by omega, by rw [fr 136 (by decide) (by decide) (by decide) (by decide) (by decide)]; exact x2, by rw [e5 138 (by decide) (by decide) (by decide), va_up_self]⟩
          obtain ⟨Ib, b1', b2', b3', b4', b5', b6', b7'⟩ := sum_0 (mj := mj) (mq := mq) f2
          rw [b1']
          have stc : stB (cc :: (List.replicate t 11 ++ B)) := ⟨by rw [cr1]; decide, by rw [cr1]; decide⟩
          obtain ⟨f', Ic, Jc, rc, ee2, hh2⟩ := (sum_sim (J := J) (rj := rj) (rq := rq) (mj := mj) (mq := mq) h3 hb stc (by show (List.replicate t (11 : Int32) ++ B).length + 1 ≤ 11; omega) (cm := 1) (ob := o0 + t) (S0 := S0) (F0 := F0) (bb := bb) (p0 := p0 + t + 1) (n - e2 + 1)).1 N2 (i2 + Int32.ofInt 1) K rk _ Ib J5 rr1 [] (o0 + t) e2 c' v' s' e' (Nat.lt_succ_self _) hC4 ht' b2' b3' trivial rfl ho (Or.inl k137) (by omega) (by omega) (by omega) (Nat.lt_succ_self _) (E1 ++ Q.map (fun x => -x)) e7 ((FS_eq (b6'.trans (f3 398 (by decide) (by decide) (by decide) (by decide))) rfl).trans hF1) ((b7'.trans (f3 396 (by decide) (by decide) (by decide) (by decide))).trans hb1) (by rw [List.length_append, List.length_map]; show E1.length + Q.length + 0 + (p0 + t + 1) ≤ e2; omega) (by
            show eTr (E1 ++ Q.map (fun x => -x)) [] = some (eTy (cc :: (List.replicate t 11 ++ B)))
            rw [eTy_v (by omega)]
            exact ht1) 1 (by decide)
          rw [ee2, bn_n rfl]
          rcases hh2 with ⟨y, s0, y1', y2'⟩ | ⟨y, p3, c3, v3, s3, e3', N3, i3, I6, r6, Q2, q1, q2, q3, q4, ⟨q5, q5l, q5c⟩, q6, q7, q8, q9, E2, hE2, hF2, hb2, hl2, ht2⟩
          · rw [if_neg y]
            exact ⟨f', Ic, Jc, rc, rfl, Or.inl ⟨y, s0, y1', y2'⟩⟩
          · subst y
            rw [if_pos (show (0 : Int32) = 0 from rfl)]
            obtain ⟨Id, rd, d1', d2', d3', d4'⟩ := emit_m (J := Jc) (ri := rc) (rj := mj) (rq := mq) (a := cmC cc) (b := 0) (I := Ic)
            rw [bv_n d1']
            have hRd := RST_fr q4 d2' d3'
            obtain ⟨⟨m1, m2⟩, ⟨m3, m4, m5⟩, ⟨m6, m7⟩, m8⟩ := hRd
            have k0 : (0 : Int32).toInt = 0 := by decide
            obtain ⟨Ie, re, n1', n2', n3', n4'⟩ := nots_L (mj := mj) (mq := mq) (J1 := Jc) hx (by omega) ((x.toInt - (0 : Int32).toInt).toNat + 1) 0 0 (va_up Id 402 (Id 402 - x)) rd (by decide) (Nat.zero_le _) (by rw [hx, k0]; omega)
            rw [n1']
            have eL : (E2 ++ (Q2 ++ cc :: List.replicate t 11).map (fun x => -x)).map en = (E2 ++ Q2.map (fun x => -x)).map en ++ ((cmC cc, 0) :: List.replicate t (20, 0)) := by
              simp only [List.map_append, List.map_cons, List.map_replicate, List.append_assoc, en_cm qc, en_11]
            have hF5 : FS Ie re = fmL bb F0 ((E2 ++ (Q2 ++ cc :: List.replicate t 11).map (fun x => -x)).map en) := by
              rw [n4', FS_I (by decide), va_up_ne _ _ (show (396 : Nat) ≠ 402 by decide), d2' 396 (by decide), hb2, d4', hb2, hF2, eL, fmL_app]
              rfl
            have zz : ∀ f, f ≠ 398 → f ≠ 402 → Ie f = Id f := fun f h1 h2 => (n2' f h1).trans (va_up_ne _ _ h2)
            have o4 : (Id 402 - x).toInt = (o0 : Int) := by
              have := i_sub m8 hx (by omega) (by omega)
              omega
            obtain ⟨na1, na2⟩ := nots_a t
            have aQ : allR 3 (cc :: List.replicate t 11) := fun y hy => by
              rcases List.mem_cons.mp hy with z | z
              · rw [z, cr1]; decide
              · exact na1 y z
            obtain ⟨u1', u2'⟩ := all_app (Q := Q2) (allR_le (show (3 : Int32).toInt ≤ (5 : Int32).toInt by decide) q5) aQ
            have cQ : cntO (cc :: List.replicate t 11) = t := by
              show (if cc = 11 ∨ cc = 35 then 1 else 0) + cntO (List.replicate t 11) = t
              rw [if_neg (fun z => by rcases z with z | z; exact cr3 z; exact cr4 z), na2, Nat.zero_add]
            rw [cQ] at u2'
            have lQ2 : (Q2 ++ cc :: List.replicate t 11).length = Q2.length + (t + 1) := by rw [List.length_append, List.length_cons, List.length_replicate]
            have eQ : (Q2 ++ cc :: List.replicate t 11) ++ B = Q2 ++ (cc :: (List.replicate t 11 ++ B)) := by rw [List.append_assoc]; rfl
            refine ⟨0, Ie, Jc, re, rfl, Or.inr ⟨rfl, p3, c3, v3, s3, e3', N3, i3, I6, r6, Q2 ++ cc :: List.replicate t 11, [], q1, ?_, q3, ⟨⟨by rw [zz 388 (by decide) (by decide)]; exact m1, by rw [n3' 387 (by decide)]; exact m2⟩, ⟨by rw [zz 391 (by decide) (by decide)]; exact m3, by rw [zz 392 (by decide) (by decide)]; exact m4, TKF_fr m5 (zz 393 (by decide) (by decide)) (zz 394 (by decide) (by decide))⟩, ⟨by rw [zz 401 (by decide) (by decide)]; exact m6, by rw [n3' 400 (by decide)]; exact m7⟩, by rw [n2' 402 (by decide), va_up_self]; exact o4⟩, u1', by omega, by omega, q6, q7, q8, ?_, E2, hE2, hF5, ((zz 396 (by decide) (by decide)).trans (d2' 396 (by decide))).trans hb2, by rw [lQ2]; omega, ?_⟩⟩
            · rw [eQ, u2', show o0 + (cntO Q2 + t) = o0 + t + cntO Q2 by omega]
              exact q2
            · rw [zz 391 (by decide) (by decide), zz 393 (by decide) (by decide), d2' 391 (by decide), d2' 393 (by decide)]
              rw [b4', b5'] at q9
              rw [u4, u5] at w9
              omega
            · rw [show (Q2 ++ cc :: List.replicate t (11 : Int32)).map (fun x => -x) = Q2.map (fun x => -x) ++ (-cc :: List.replicate t (-11)) by
                simp only [List.map_append, List.map_cons, List.map_replicate], ← List.append_assoc]
              rw [eTy_v (by omega), eTy_rep (Or.inl rfl)] at ht2
              exact eTr_2 ht2 ((eTr_c (eTs_cm qc)).trans (eTr_11 t))
        · rw [if_neg (show ¬ (0 : Int32) ≤ cmC cc from Int32.not_le.mpr (cm_lt qc))]
          obtain ⟨K, rk, e1, e2'⟩ := rb_no (J := J) (ri := r2) (rj := rj) (rq := rq) (I := I3) z5 (by rw [g1]; exact w6) (Or.inr (Or.inl ⟨by rw [x2]; decide, x3, by rw [g1]; exact qc⟩))
          rw [hD3, bn_n e1]
          exact ⟨1, I1, J1, rr1, rfl, Or.inl ⟨by decide, s2, w4.2.1.2.1, FIN_f e2' g2 (by decide), _, hF1, by simp only [List.length_append, List.length_map]; omega⟩⟩
end PR9
