/-! ===== pure: a number, KEYS, both sides ===== -/
section PR11
variable {J : Nat → Int64} {rj : Nat → Nat → Int64} {rq : Nat → Nat → Option Nat} {mj : Nat → Nat → Int64} {mq : Nat → Nat → Option Nat}
theorem exp_v {I : Nat → Int32} {r : Nat → Nat → Int32} (h0 : I 129 = 0) : (I 194 = 32 ∧ g_X4_expectSemicolon I J r rj rq = (I, J, r, rj, rq)) ∨ (I 194 ≠ 32 ∧ ∃ K : Nat → Int32, g_X4_expectSemicolon I J r rj rq = (K, J, r, rj, rq) ∧ K 129 = 1 ∧ K 130 = I 195) := by
  rw [g_X4_expectSemicolon_e]
  try simp only [↓ap1_n]
  by_cases q : I 194 = 32
  · rw [if_pos q]; exact Or.inl ⟨q, rfl⟩
  · rw [if_neg q, bv_n (refuse_c h0)]
    exact Or.inr ⟨q, _, rfl, refuse_1.1, refuse_1.2⟩
theorem exp_f {I : Nat → Int32} {r : Nat → Nat → Int32} (h0 : I 129 ≠ 0) : g_X4_expectSemicolon I J r rj rq = (I, J, r, rj, rq) := by
  rw [g_X4_expectSemicolon_e]
  try simp only [↓ap1_n]
  by_cases q : I 194 = 32
  · rw [if_pos q]
  · rw [if_neg q, g_X4_refuse_e]
    try simp only [↓ap1_n]
    rw [if_neg h0, bv_n rfl]
theorem nv_le {v w a : Int32} (h : nvE v w) (ha : a.toInt ≤ 9999) : v ≤ a ↔ w ≤ a := by
  rw [Int32.le_iff_toInt_le, Int32.le_iff_toInt_le]
  rcases h with ⟨h1, h2, h3⟩ | ⟨h1, h2, h3⟩
  · rw [h3]
  · omega
/-- the state of the class ahead of a TOKEN -/
def PST (n p : Nat) (T : Nat → Int32) (I : Nat → Int32) (r : Nat → Nat → Int32) : Prop := (I 193).toInt = (n : Int) ∧ r 192 = T ∧ (I 197).toInt = (p : Int) ∧ p ≤ n ∧ I 129 = 0
/-- what a number has told -/
def CNU (S0 : Int32 × (Nat → Int32)) (G : Nat → Int32) (x : Nat) (w0 bb : Int32) (p0 : Nat) : ((Nat → Int32) → (Nat → Nat → Int32) → (Nat → Int32) → (Nat → Nat → Int32) → Nat → Prop) := fun If rf I1 r1 p2 => ∃ w : Int32, ES If rf = emL S0 [w] ∧ r1 384 = upd G x w ∧ I1 398 = w0 ∧ I1 396 = bb ∧ 1 + p0 ≤ p2
/-- a key of the class in the reference -/
def kr (k : Int32) : Int32 := if 0 ≤ k then nmC k else -1 - nmC (-k)
def km1 (a0 : Int32) (f : Nat → Int32) (k : Int32) : Nat → Int32 := upd (upd f (a0 + 5 + f (a0 + 4).toNatClampNeg).toNatClampNeg (kr k)) (a0 + 4).toNatClampNeg (upd f (a0 + 5 + f (a0 + 4).toNatClampNeg).toNatClampNeg (kr k) (a0 + 4).toNatClampNeg + 1)
def kmL (a0 : Int32) (f : Nat → Int32) : List Int32 → Nat → Int32
  | [] => f
  | k :: X => kmL a0 (km1 a0 f k) X
theorem kmL_snoc {a0 k : Int32} : ∀ (X : List Int32) (f : Nat → Int32), kmL a0 f (X ++ [k]) = km1 a0 (kmL a0 f X) k
  | [], _ => rfl
  | y :: X, f => kmL_snoc X (km1 a0 f y)
theorem km_v {a0 val k : Int32} {r : Nat → Nat → Int32} (h : kr k = val) : (va_up (va_up r 384 (upd (r 384) (a0 + 5 + r 384 (a0 + 4).toNatClampNeg).toNatClampNeg val)) 384 (upd (va_up r 384 (upd (r 384) (a0 + 5 + r 384 (a0 + 4).toNatClampNeg).toNatClampNeg val) 384) (a0 + 4).toNatClampNeg (va_up r 384 (upd (r 384) (a0 + 5 + r 384 (a0 + 4).toNatClampNeg).toNatClampNeg val) 384 (a0 + 4).toNatClampNeg + 1))) 384 = km1 a0 (r 384) k := by
  unfold km1
  rw [h]
  simp only [va_up_self]
theorem kr_pos {c : Int32} (h : 12 ≤ c.toInt ∧ c.toInt ≤ 17) : kr c = nmC c := by
  have k0 : (0 : Int32).toInt = 0 := by decide
  exact if_pos (Int32.le_iff_toInt_le.mpr (by omega))
theorem kr_neg {c : Int32} (h : 12 ≤ c.toInt ∧ c.toInt ≤ 17) : kr (-c) = -1 - nmC c := by
  have d : c.toInt = 12 ∨ c.toInt = 13 ∨ c.toInt = 14 ∨ c.toInt = 15 ∨ c.toInt = 16 ∨ c.toInt = 17 := by omega
  rcases d with d | d | d | d | d | d
  · rw [to_k (c := c) (k := 12) d (by decide)]; decide
  · rw [to_k (c := c) (k := 13) d (by decide)]; decide
  · rw [to_k (c := c) (k := 14) d (by decide)]; decide
  · rw [to_k (c := c) (k := 15) d (by decide)]; decide
  · rw [to_k (c := c) (k := 16) d (by decide)]; decide
  · rw [to_k (c := c) (k := 17) d (by decide)]; decide
/-- a KEY -/
def KYN (y : Int32) : Prop := (12 ≤ y.toInt ∧ y.toInt ≤ 17) ∨ (-17 ≤ y.toInt ∧ y.toInt ≤ -12)
/-- what KEYS have told -/
def CKE (a0 : Int32) (S0 : Int32 × (Nat → Int32)) (G : Nat → Int32) (w0 bb : Int32) (p0 : Nat) : ((Nat → Int32) → (Nat → Nat → Int32) → (Nat → Int32) → (Nat → Nat → Int32) → Nat → Prop) := fun If rf I1 r1 p2 => ∃ E : List Int32, ES If rf = emL S0 E ∧ r1 384 = kmL a0 G E ∧ I1 398 = w0 ∧ I1 396 = bb ∧ E.length + p0 ≤ p2 ∧ E.length ≤ 4 ∧ ∀ y, y ∈ E → KYN y
def ZNU (G : Nat → Int32) (x : Nat) : (Nat → Int32) → (Nat → Nat → Int32) → Prop := fun _ r1 => ∀ j, j ≠ x → r1 384 j = G j
def ZKE (a0 : Int32) (G : Nat → Int32) : (Nat → Int32) → (Nat → Nat → Int32) → Prop := fun _ r1 => ∃ X : List Int32, r1 384 = kmL a0 G X ∧ X.length ≤ 4
/-- the class takes the next TOKEN -/
theorem PST_n {n p : Nat} {T : Nat → Int32} (h3 : n ≤ 300) {I : Nat → Int32} {r : Nat → Nat → Int32} (h : PST n p T I r) {c v : Int32} {s e : Nat} (ht : TKC T n p c s e v) : ∃ I2 : Nat → Int32, g_X6_advance I J r rj rq = (I2, J, r, rj, rq) ∧ I2 194 = c ∧ (I2 195).toInt = (s : Int) ∧ (c = 18 → I2 196 = v) ∧ PST n e T I2 r ∧ ∀ f, f ≠ 194 → f ≠ 195 → f ≠ 196 → f ≠ 197 → I2 f = I f := by
  obtain ⟨a1, a2, a3, a4, a5⟩ := h
  obtain ⟨I2, i1, i2, i3, i4, i5, i6⟩ := adv_v (J := J) (ri := r) (rj := rj) (rq := rq) h3 a1 a3 a4 (by rw [a2]; exact ht)
  exact ⟨I2, i1, i2, i3, i5, ⟨by rw [i6 193 (by decide) (by decide) (by decide) (by decide)]; exact a1, a2, i4, (TKC_le ht).2.2.1, by rw [i6 129 (by decide) (by decide) (by decide) (by decide)]; exact a5⟩, i6⟩
theorem PST_fr {n p : Nat} {T : Nat → Int32} {I I' : Nat → Int32} {r r' : Nat → Nat → Int32} (h : PST n p T I r) (hI : ∀ f, f ≠ 132 → I' f = I f) (hr : ∀ t, t ≠ 259 → r' t = r t) : PST n p T I' r' := by
  obtain ⟨a1, a2, a3, a4, a5⟩ := h
  exact ⟨by rw [hI 193 (by decide)]; exact a1, by rw [hr 192 (by decide)]; exact a2, by rw [hI 197 (by decide)]; exact a3, a4, by rw [hI 129 (by decide)]; exact a5⟩
/-- ; is looked for: both sides -/
theorem semi_r {C : (Nat → Int32) → (Nat → Nat → Int32) → (Nat → Int32) → (Nat → Nat → Int32) → Nat → Prop} {Z : (Nat → Int32) → (Nat → Nat → Int32) → Prop} {n : Nat} {T : Nat → Int32} {p2 : Nat} {c2 v2 : Int32} {s2 e2 : Nat} {P2 : List Int32} {I2 : Nat → Int32} {r2 : Nat → Nat → Int32} {I1 : Nat → Int32} {J1 : Nat → Int64} {r1 : Nat → Nat → Int32} {tm0 : Int} (hp : PST n e2 T I2 r2) (g1 : I2 194 = c2) (g2 : (I2 195).toInt = (s2 : Int)) (ht : TKC T n p2 c2 s2 e2 v2) (hR : RST n T c2 v2 s2 e2 P2 0 I1 J1 r1) (htm : tmM (I1 391).toInt (I1 393).toInt < tm0) (hC : C I2 r2 I1 r1 p2) (hZ : Z I1 r1) : ERES J rj rq mj mq n T C Z (g_X4_expectSemicolon I2 J r2 rj rq) (0, I1, J1, r1, mj, mq) tm0 := by
  obtain ⟨a1, a2, a3, a4, a5⟩ := hp
  refine ⟨0, I1, J1, r1, rfl, Or.inr ⟨rfl, p2, c2, v2, s2, e2, P2, ht, hR, ?_, htm⟩⟩
  rcases exp_v (J := J) (r := r2) (rj := rj) (rq := rq) a5 with ⟨q, e⟩ | ⟨q, K, e, k1, k2⟩
  · exact Or.inl ⟨g1.symm.trans q, I2, r2, e, a5, a1, a2, a3, hC⟩
  · exact Or.inr ⟨fun y => q (g1.trans y), ⟨K, r2, e, k1, by rw [k2]; exact g2⟩, hZ⟩
theorem num_sim {n : Nat} {T : Nat → Int32} (h3 : n ≤ 300) (hb : ∀ j, j < n → 0 ≤ (T j).toInt) {a x : Int32} (ha : a.toInt ≤ 9999) {p : Nat} {I : Nat → Int32} {r : Nat → Nat → Int32} (hp : PST n p T I r) {c v : Int32} {s e : Nat} (ht : TKC T n p c s e v) {I' : Nat → Int32} {J' : Nat → Int64} {r' : Nat → Nat → Int32} {P : List Int32} (hR : RST n T c v s e P 0 I' J' r') : ERES J rj rq mj mq n T (CNU (ES I r) (r' 384) x.toNatClampNeg (I' 398) (I' 396) p) (ZNU (r' 384) x.toNatClampNeg) (g_X4_readNumber a I J r rj rq) (g_X12_take a x I' J' r' mj mq) (tmM (I' 391).toInt (I' 393).toInt) := by
  obtain ⟨I2, i1, i2, i3, i4, hp2, iF⟩ := PST_n (J := J) (rj := rj) (rq := rq) h3 hp ht
  have hR' := hR
  obtain ⟨⟨a1, a2⟩, ⟨b1, b2, b3⟩, _, _⟩ := hR'
  obtain ⟨t0, t18, t33, s19, s20, s21, s22, s23, s24, s25, s26, s27, s28, s29, s30, s31, s32, t2, tv, tw⟩ := b3
  rw [g_X4_readNumber_e, g_X12_take_e]
  try simp only [↓ap1_n]
  rw [bv_n i1]
  have rf : ∀ k : Int32, k ≠ 0 → FIN J rj rq k s (va_up (va_up I2 129 k) 130 (I2 195), J, r, rj, rq) := fun k hk => ⟨_, r, rfl, refuse_1.1, by rw [refuse_1.2]; exact i3⟩
  by_cases q : c = 18
  · rw [if_pos (i2.trans q), if_pos (t18.mpr q), i4 q]
    by_cases hv : v ≤ a
    · rw [if_pos hv, if_pos ((nv_le (tv q) ha).mp hv)]
      obtain ⟨I3, r3, e1, e2, e3, e4⟩ := emit_c (J := J) (ri := r) (rj := rj) (rq := rq) (a := v) (I := I2)
      rw [bv_n e1]
      have hp3 := PST_fr hp2 e2 e3
      obtain ⟨c2, s2, e2', v2, ht2⟩ := TKC_ex T hp2.2.2.2.1
      obtain ⟨I4, j1, j2, j3, _, hp4, jF⟩ := PST_n (J := J) (rj := rj) (rq := rq) h3 hp3 ht2
      rw [bv_n j1]
      have hR2 : RST n T c v s e P 0 I' J' (va_up r' 384 (upd (r' 384) x.toNatClampNeg (I' 394))) := RST_fr hR (fun _ _ => rfl) (fun t h => va_up_ne _ _ h)
      obtain ⟨I5, J5, f1, f2, f3⟩ := RST_n (mj := mj) (mq := mq) h3 hb hR2 (TKC_le ht).2.2.1 ht2
      rw [bv_n f1]
      obtain ⟨n1, _⟩ := tm_nx h3 hR2 (by rw [q]; decide) f2 ht2
      have vw : v = I' 394 := by
        rcases tv q with ⟨_, _, u⟩ | ⟨_, _, u⟩
        · exact u
        · have := Int32.le_iff_toInt_le.mp hv
          omega
      have hse := (TKC_le ht).2.2.2.2 (by
        rcases ht.2 with ⟨_, _, w3⟩ | ⟨w1, _⟩ | ⟨w1, _⟩ | ⟨w1, _⟩
        · rw [q] at w3; exact absurd w3 (by decide)
        · exact w1
        · exact w1
        · exact w1)
      have hle := TKC_le ht
      have hCC : CNU (ES I r) (r' 384) x.toNatClampNeg (I' 398) (I' 396) p I4 r3 I5 (va_up r' 384 (upd (r' 384) x.toNatClampNeg (I' 394))) e := ⟨I' 394, by
        rw [ES_eq (jF 132 (by decide) (by decide) (by decide) (by decide)) rfl, e4, ES_eq (iF 132 (by decide) (by decide) (by decide) (by decide)) rfl, vw]
        rfl, va_up_self _ _ _, f3 398 (by decide) (by decide) (by decide) (by decide), f3 396 (by decide) (by decide) (by decide) (by decide), by omega⟩
      have S := semi_r (J := J) (rj := rj) (rq := rq) (mj := mj) (mq := mq) hp4 j2 j3 ht2 f2 n1 hCC (show ZNU (r' 384) x.toNatClampNeg I5 _ from fun j hj => by rw [va_up_self]; exact upd_n _ _ hj)
      rcases exp_v (J := J) (r := r3) (rj := rj) (rq := rq) hp4.2.2.2.2 with ⟨_, ex⟩ | ⟨_, K, ex, _, _⟩
      · rw [bv_n ex]; rw [ex] at S; exact S
      · rw [bv_n ex]; rw [ex] at S; exact S
    · rw [if_neg hv, if_neg (fun y => hv ((nv_le (tv q) ha).mpr y)), bv_n (refuse_c hp2.2.2.2.2)]
      exact ⟨2, I', J', r', rfl, Or.inl ⟨by decide, s, b2, rf 2 (by decide), fun _ _ => rfl⟩⟩
  · rw [if_neg (fun y => q (i2.symm.trans y)), if_neg (fun y => q (t18.mp y)), bv_n (refuse_c hp2.2.2.2.2)]
    exact ⟨1, I', J', r', rfl, Or.inl ⟨by decide, s, b2, rf 1 (by decide), fun _ _ => rfl⟩⟩
/-! KEYS -/
theorem isN_0 {c : Int32} (h : ¬ (12 ≤ c.toInt ∧ c.toInt ≤ 17)) : g_X4_isName c = 0 := by
  have k1 : (12 : Int32).toInt = 12 := by decide
  have k2 : (17 : Int32).toInt = 17 := by decide
  rw [g_X4_isName_e]
  by_cases a : c < 12
  · rw [if_pos a]
  · have a1 := Int32.le_iff_toInt_le.mp (Int32.not_lt.mp a)
    rw [if_neg a, if_pos (show 17 < c from Int32.lt_iff_toInt_lt.mpr (by omega))]
theorem isN_1 {c : Int32} (h : 12 ≤ c.toInt ∧ c.toInt ≤ 17) : g_X4_isName c = 1 := by
  have k1 : (12 : Int32).toInt = 12 := by decide
  have k2 : (17 : Int32).toInt = 17 := by decide
  rw [g_X4_isName_e, if_neg (show ¬ c < 12 from fun q => by have q1 := Int32.lt_iff_toInt_lt.mp q; omega), if_neg (show ¬ 17 < c from fun q => by have q1 := Int32.lt_iff_toInt_lt.mp q; omega)]
/-- how the class reads one key -/
theorem key_v {x : Int32} {k : Nat} (hx : x.toInt = (k : Int)) {n p : Nat} {T : Nat → Int32} (h3 : n ≤ 300) {I : Nat → Int32} {r : Nat → Nat → Int32} (hp : PST n p T I r) {c : Int32} {s : Nat} (g1 : I 194 = c) (g2 : (I 195).toInt = (s : Int)) {c2 v2 : Int32} {s2 e2 : Nat} (ht : TKC T n p c2 s2 e2 v2) : ∃ (K : Nat → Int32) (rk : Nat → Nat → Int32), g_X4_readKey x I J r rj rq = (K, J, rk, rj, rq) ∧ ((c = 26 ∧ k < 4 ∧ (12 ≤ c2.toInt ∧ c2.toInt ≤ 17) ∧ PST n e2 T K rk ∧ ES K rk = emL (ES I r) [-c2]) ∨ (c = 26 ∧ k < 4 ∧ ¬ (12 ≤ c2.toInt ∧ c2.toInt ≤ 17) ∧ K 129 = 1 ∧ (K 130).toInt = (s2 : Int)) ∨ (c = 26 ∧ ¬ k < 4 ∧ K 129 = 5 ∧ (K 130).toInt = (s : Int)) ∨ (c ≠ 26 ∧ ¬ (12 ≤ c.toInt ∧ c.toInt ≤ 17) ∧ K 129 = 1 ∧ (K 130).toInt = (s : Int)) ∨ (c ≠ 26 ∧ (12 ≤ c.toInt ∧ c.toInt ≤ 17) ∧ k < 4 ∧ PST n p T K rk ∧ ES K rk = emL (ES I r) [c]) ∨ (c ≠ 26 ∧ (12 ≤ c.toInt ∧ c.toInt ≤ 17) ∧ ¬ k < 4 ∧ K 129 = 5 ∧ (K 130).toInt = (s : Int))) := by
  have k4 : (4 : Int32).toInt = 4 := by decide
  have lt : x < 4 ↔ k < 4 := by rw [Int32.lt_iff_toInt_lt, k4]; omega
  rw [g_X4_readKey_e]
  try simp only [↓ap1_n]
  -- a fault, then what is written
  have fl : ∀ (a b : Int32) (I : Nat → Int32) (s : Nat), (I 195).toInt = (s : Int) → ∃ (K : Nat → Int32) (rk : Nat → Nat → Int32), g_X4_emit b (va_up (va_up I 129 a) 130 (I 195)) J r rj rq = (K, J, rk, rj, rq) ∧ K 129 = a ∧ (K 130).toInt = (s : Int) := fun a b I s hs => by
    obtain ⟨K, rk, e1, e2, e3, -⟩ := emit_c (J := J) (ri := r) (rj := rj) (rq := rq) (a := b) (I := va_up (va_up I 129 a) 130 (I 195))
    exact ⟨K, rk, e1, by rw [e2 129 (by decide)]; exact refuse_1.1, by rw [e2 130 (by decide), refuse_1.2]; exact hs⟩
  by_cases q : c = 26
  · rw [if_pos (g1.trans q)]
    by_cases hk : k < 4
    · rw [if_pos (lt.mpr hk)]
      obtain ⟨I2, i1, i2, i3, i4, hp2, iF⟩ := PST_n (J := J) (rj := rj) (rq := rq) h3 hp ht
      rw [bv_n i1]
      by_cases hn : 12 ≤ c2.toInt ∧ c2.toInt ≤ 17
      · rw [i2, isN_1 hn, if_neg (show ¬ (1 : Int32) = 0 by decide)]
        obtain ⟨K, rk, e1, e2, e3, e4⟩ := emit_c (J := J) (ri := r) (rj := rj) (rq := rq) (a := -c2) (I := I2)
        rw [bv_n e1]
        rw [ES_eq (iF 132 (by decide) (by decide) (by decide) (by decide)) rfl] at e4
        exact ⟨K, rk, rfl, Or.inl ⟨q, hk, hn, PST_fr hp2 e2 e3, e4⟩⟩
      · rw [i2, isN_0 hn, if_pos (show (0 : Int32) = 0 from rfl), bv_n (refuse_c hp2.2.2.2.2)]
        obtain ⟨K, rk, e1, e2, e3⟩ := fl 1 (-(va_up (va_up I2 129 1) 130 (I2 195) 194)) I2 s2 i3
        rw [bv_n e1]
        exact ⟨K, rk, rfl, Or.inr (Or.inl ⟨q, hk, hn, e2, e3⟩)⟩
    · rw [if_neg (fun y => hk (lt.mp y)), bv_n (refuse_c hp.2.2.2.2)]
      obtain ⟨K, rk, e1, e2, e3⟩ := fl 5 (-(va_up (va_up I 129 5) 130 (I 195) 194)) I s g2
      rw [bv_n e1]
      exact ⟨K, rk, rfl, Or.inr (Or.inr (Or.inl ⟨q, hk, e2, e3⟩))⟩
  · rw [if_neg (fun y => q (g1.symm.trans y)), g1]
    by_cases hn : 12 ≤ c.toInt ∧ c.toInt ≤ 17
    · rw [isN_1 hn, if_neg (show ¬ (1 : Int32) = 0 by decide)]
      by_cases hk : k < 4
      · rw [if_pos (lt.mpr hk)]
        obtain ⟨K, rk, e1, e2, e3, e4⟩ := emit_c (J := J) (ri := r) (rj := rj) (rq := rq) (a := c) (I := I)
        rw [bv_n e1]
        exact ⟨K, rk, rfl, Or.inr (Or.inr (Or.inr (Or.inr (Or.inl ⟨q, hn, hk, PST_fr hp e2 e3, e4⟩))))⟩
      · rw [if_neg (fun y => hk (lt.mp y)), bv_n (refuse_c hp.2.2.2.2)]
        obtain ⟨K, rk, e1, e2, e3⟩ := fl 5 (va_up (va_up I 129 5) 130 (I 195) 194) I s g2
        rw [bv_n e1]
        exact ⟨K, rk, rfl, Or.inr (Or.inr (Or.inr (Or.inr (Or.inr ⟨q, hn, hk, e2, e3⟩))))⟩
    · rw [isN_0 hn, if_pos (show (0 : Int32) = 0 from rfl), bv_n (refuse_c hp.2.2.2.2)]
      obtain ⟨K, rk, e1, e2, e3⟩ := fl 1 (va_up (va_up I 129 1) 130 (I 195) 194) I s g2
      rw [bv_n e1]
      exact ⟨K, rk, rfl, Or.inr (Or.inr (Or.inr (Or.inl ⟨q, hn, e2, e3⟩)))⟩
/-- behind a fault the class reads no further key -/
theorem KL_f {m : Nat} {x d : Int32} {I : Nat → Int32} {r : Nat → Nat → Int32} (h : I 129 ≠ 0) : g_X4_readKeys_L4 J rj rq m x d I r = (I, J, r, rj, rq) := by
  cases m with
  | zero => rfl
  | succ m =>
    rw [g_X4_readKeys_L4_e]
    try simp only [↓ap1_n]
    by_cases a : d = 0
    · rw [if_pos a, bv_n (exp_f h)]
    · rw [if_neg a]
      by_cases b : 4 < x
      · rw [if_pos b, bv_n (exp_f h)]
      · rw [if_neg b, if_neg h, bv_n (exp_f h)]
theorem cnt_up {a0 val : Int32} {A k : Nat} (hA : a0.toInt = (A : Int)) (hA2 : A ≤ 100000) {r : Nat → Nat → Int32} (hk : (r 384 (a0 + 4).toNatClampNeg).toInt = (k : Int)) (k4 : k ≤ 4) : (va_up (va_up r 384 (upd (r 384) (a0 + 5 + r 384 (a0 + 4).toNatClampNeg).toNatClampNeg val)) 384 (upd (va_up r 384 (upd (r 384) (a0 + 5 + r 384 (a0 + 4).toNatClampNeg).toNatClampNeg val) 384) (a0 + 4).toNatClampNeg (va_up r 384 (upd (r 384) (a0 + 5 + r 384 (a0 + 4).toNatClampNeg).toNatClampNeg val) 384 (a0 + 4).toNatClampNeg + 1)) 384 (a0 + 4).toNatClampNeg).toInt = ((k + 1 : Nat) : Int) := by
  have e4 : (a0 + 4).toInt = ((A + 4 : Nat) : Int) := by
    have := i_add hA (show (4 : Int32).toInt = 4 by decide) (by omega) (by omega)
    omega
  have e5 : (a0 + 5).toInt = ((A + 5 : Nat) : Int) := by
    have := i_add hA (show (5 : Int32).toInt = 5 by decide) (by omega) (by omega)
    omega
  have e6 : (a0 + 5 + r 384 (a0 + 4).toNatClampNeg).toInt = ((A + 5 + k : Nat) : Int) := by
    have := i_add e5 hk (by omega) (by omega)
    omega
  simp only [va_up_self, upd_s]
  rw [at_n e6, upd_n (r 384) val (show (a0 + 4).toNatClampNeg ≠ A + 5 + k by rw [at_n e4]; omega)]
  exact upN hk (by omega)
theorem keys_L {n : Nat} {T : Nat → Int32} (h3 : n ≤ 300) (hb : ∀ j, j < n → 0 ≤ (T j).toInt) {a0 : Int32} {A : Nat} (hA : a0.toInt = (A : Int)) (hA2 : A ≤ 100000) {S0 : Int32 × (Nat → Int32)} {G0 : Nat → Int32} {w0 bb : Int32} {p0 : Nat} : ∀ (m mm : Nat) (x : Int32) (k : Nat) (I : Nat → Int32) (r : Nat → Nat → Int32) (I' : Nat → Int32) (J' : Nat → Int64) (r' : Nat → Nat → Int32) (P : List Int32) (p : Nat) (c v : Int32) (s e : Nat), x.toInt = (k : Int) → k ≤ 4 → 5 - k < m → (tmM (I' 391).toInt (I' 393).toInt).toNat < mm → PST n p T I r → TKC T n p c s e v → RST n T c v s e P 0 I' J' r' → (r' 384 (a0 + 4).toNatClampNeg).toInt = (k : Int) → ∀ E : List Int32, ES I r = emL S0 E → r' 384 = kmL a0 G0 E → I' 398 = w0 → I' 396 = bb → E.length + p0 ≤ p → E.length = k → (∀ y, y ∈ E → KYN y) → ERES J rj rq mj mq n T (CKE a0 S0 G0 w0 bb p0) (ZKE a0 G0) (g_X4_readKeys_L4 J rj rq m x 1 I r) (g_X12_keys_L11 a0 mj mq mm 1 I' J' r') (tmM (I' 391).toInt (I' 393).toInt) := by
  intro m
  induction m with
  | zero => intro _ _ _ _ _ _ _ _ _ _ _ _ _ _ _ _ h; exact absurd h (Nat.not_lt_zero _)
  | succ m ih =>
    intro mm x k I r I' J' r' P p c v s e hx hk hm hmm hp ht hR hc E hE hG hw hbb hEl hEk hEK
    cases mm with
    | zero => exact absurd hmm (Nat.not_lt_zero _)
    | succ mm =>
    have hle := TKC_le ht
    obtain ⟨I2, i1, i2, i3, i4, hp2, iF⟩ := PST_n (J := J) (rj := rj) (rq := rq) h3 hp ht
    have hE2 : ES I2 r = emL S0 E := (ES_eq (iF 132 (by decide) (by decide) (by decide) (by decide)) rfl).trans hE
    obtain ⟨c2, s2, e2, v2, ht2⟩ := TKC_ex T hp2.2.2.2.1
    obtain ⟨K, rk, kk, hK⟩ := key_v (J := J) (rj := rj) (rq := rq) hx h3 hp2 i2 i3 ht2
    have k4 : (4 : Int32).toInt = ((4 : Nat) : Int) := by decide
    rw [g_X4_readKeys_L4_e, g_X12_keys_L11_e]
    try simp only [↓ap1_n]
    rw [if_neg (show ¬ (1 : Int32) = 0 by decide), if_neg (show ¬ (1 : Int32) = 0 by decide), if_neg (show ¬ (4 : Int32) < x from fun y => by have y1 := Int32.lt_iff_toInt_lt.mp y; omega), if_pos hp.2.2.2.2, bv_n i1, bv_n kk]
    have hR' := hR
    obtain ⟨⟨a1, a2⟩, ⟨b1, b2, b3⟩, _, _⟩ := hR'
    have b3' := b3
    obtain ⟨t0, t18, t33, s19, s20, s21, s22, s23, s24, s25, s26, s27, s28, s29, s30, s31, s32, t2, tv, tw⟩ := b3'
    have zk : ∀ I0 : Nat → Int32, ZKE a0 G0 I0 r' := fun _ => ⟨E, hG, by omega⟩
    -- the class at its end
    have clf : K 129 ≠ 0 → (if K 129 = 0 then bnV (g_X6_advance K J rk rj rq) fun (I6 : Nat → Int32) (_ : Nat → Int64) (_ : Nat → Nat → Int32) (_ : Nat → Nat → Int64) (_ : Nat → Nat → Option Nat) => (if I6 194 = 31 then g_X4_readKeys_L4 J rj rq m (x + Int32.ofInt 1) 1 I6 rk else g_X4_readKeys_L4 J rj rq m (x + Int32.ofInt 1) 0 I6 rk) else (if K 194 = 31 then g_X4_readKeys_L4 J rj rq m (x + Int32.ofInt 1) 1 K rk else g_X4_readKeys_L4 J rj rq m (x + Int32.ofInt 1) 0 K rk)) = (K, J, rk, rj, rq) := fun h => by
      rw [if_neg h]
      by_cases y : K 194 = 31
      · rw [if_pos y]; exact KL_f h
      · rw [if_neg y]; exact KL_f h
    -- behind a key
    have tail : ∀ (e3 : Nat) (c3 v3 : Int32) (s3 p3 : Nat) (I3 : Nat → Int32) (J3 : Nat → Int64) (r3 : Nat → Nat → Int32), PST n e3 T K rk → c3 ≠ 33 → TKC T n p3 c3 s3 e3 v3 → RST n T c3 v3 s3 e3 P 0 I3 J3 r3 → (r3 384 (a0 + 4).toNatClampNeg).toInt = ((k + 1 : Nat) : Int) → k < 4 → tmM (I3 391).toInt (I3 393).toInt ≤ tmM (I' 391).toInt (I' 393).toInt → ∀ y : Int32, KYN y → ES K rk = emL S0 (E ++ [y]) → r3 384 = kmL a0 G0 (E ++ [y]) → I3 398 = w0 → I3 396 = bb → E.length + 1 + p0 ≤ e3 → ERES J rj rq mj mq n T (CKE a0 S0 G0 w0 bb p0) (ZKE a0 G0) (if K 129 = 0 then bnV (g_X6_advance K J rk rj rq) fun (I6 : Nat → Int32) (_ : Nat → Int64) (_ : Nat → Nat → Int32) (_ : Nat → Nat → Int64) (_ : Nat → Nat → Option Nat) => (if I6 194 = 31 then g_X4_readKeys_L4 J rj rq m (x + Int32.ofInt 1) 1 I6 rk else g_X4_readKeys_L4 J rj rq m (x + Int32.ofInt 1) 0 I6 rk) else (if K 194 = 31 then g_X4_readKeys_L4 J rj rq m (x + Int32.ofInt 1) 1 K rk else g_X4_readKeys_L4 J rj rq m (x + Int32.ofInt 1) 0 K rk)) (bnV (g_X12_nextToken_x I3 J3 r3 mj mq) fun (I4 : Nat → Int32) (J4 : Nat → Int64) (_ : Nat → Nat → Int32) (_ : Nat → Nat → Int64) (_ : Nat → Nat → Option Nat) => (if I4 393 = 44 then bnV (g_X12_nextToken_x I4 J4 r3 mj mq) fun (I5 : Nat → Int32) (J5 : Nat → Int64) (_ : Nat → Nat → Int32) (_ : Nat → Nat → Int64) (_ : Nat → Nat → Option Nat) => g_X12_keys_L11 a0 mj mq mm 1 I5 J5 r3 else g_X12_keys_L11 a0 mj mq mm 0 I4 J4 r3)) (tmM (I' 391).toInt (I' 393).toInt) := fun e3 c3 v3 s3 p3 I3 J3 r3 hpk h33 ht3 hR3 hc3 hk4 htm y hyK hEy hGy hwy hby hly => by
      have hEK2 : ∀ z, z ∈ E ++ [y] → KYN z := fun z hz => by
        rcases List.mem_append.mp hz with h | h
        · exact hEK z h
        · rw [List.mem_singleton.mp h]; exact hyK
      have hlE : (E ++ [y]).length = E.length + 1 := by rw [List.length_append]; rfl
      obtain ⟨c4, s4, e4, v4, ht4⟩ := TKC_ex T hpk.2.2.2.1
      obtain ⟨I6, j1, j2, j3, _, hp6, jF⟩ := PST_n (J := J) (rj := rj) (rq := rq) h3 hpk ht4
      have hE6 : ES I6 rk = emL S0 (E ++ [y]) := (ES_eq (jF 132 (by decide) (by decide) (by decide) (by decide)) rfl).trans hEy
      have hle4 := TKC_le ht4
      obtain ⟨I4, J4, f1, f2, f3⟩ := RST_n (mj := mj) (mq := mq) h3 hb hR3 (TKC_le ht3).2.2.1 ht4
      rw [if_pos hpk.2.2.2.2, bv_n j1, bv_n f1]
      obtain ⟨n1, n2⟩ := tm_nx h3 hR3 h33 f2 ht4
      have f2' := f2
      obtain ⟨_, ⟨_, _, u3⟩, _, _⟩ := f2'
      obtain ⟨_, _, _, _, _, _, _, _, _, _, _, _, _, _, _, v31, _, _, _, _⟩ := u3
      by_cases q : c4 = 31
      · rw [if_pos (j2.trans q), if_pos (v31.mpr q)]
        obtain ⟨c5, s5, e5, v5, ht5⟩ := TKC_ex T hp6.2.2.2.1
        obtain ⟨I5, J5, g1, g2, g3⟩ := RST_n (mj := mj) (mq := mq) h3 hb f2 (TKC_le ht4).2.2.1 ht5
        rw [bv_n g1]
        obtain ⟨n3, n4⟩ := tm_nx h3 f2 (by rw [q]; decide) g2 ht5
        exact ERES_w (ih mm (x + Int32.ofInt 1) (k + 1) I6 rk I5 J5 r3 P e4 c5 v5 s5 e5 (up_i hx (by omega)) (by omega) (by omega) (by omega) hp6 ht5 g2 hc3 (E ++ [y]) hE6 hGy (((g3 398 (by decide) (by decide) (by decide) (by decide)).trans (f3 398 (by decide) (by decide) (by decide) (by decide))).trans hwy) (((g3 396 (by decide) (by decide) (by decide) (by decide)).trans (f3 396 (by decide) (by decide) (by decide) (by decide))).trans hby) (by omega) (by omega) hEK2) (by omega)
      · rw [if_neg (fun y => q (j2.symm.trans y)), if_neg (fun y => q (v31.mp y))]
        cases m with
        | zero => omega
        | succ m =>
        cases mm with
        | zero => omega
        | succ mm =>
        rw [g_X4_readKeys_L4_e, g_X12_keys_L11_e]
        try simp only [↓ap1_n]
        rw [if_pos trivial, if_pos trivial]
        have S := semi_r (J := J) (rj := rj) (rq := rq) (mj := mj) (mq := mq) hp6 j2 j3 ht4 f2 (tm0 := tmM (I' 391).toInt (I' 393).toInt) (by omega) (show CKE a0 S0 G0 w0 bb p0 I6 rk I4 r3 e3 from ⟨E ++ [y], hE6, hGy, (f3 398 (by decide) (by decide) (by decide) (by decide)).trans hwy, (f3 396 (by decide) (by decide) (by decide) (by decide)).trans hby, by omega, by omega, hEK2⟩) (show ZKE a0 G0 I4 r3 from ⟨E ++ [y], hGy, by omega⟩)
        rcases exp_v (J := J) (r := rk) (rj := rj) (rq := rq) hp6.2.2.2.2 with ⟨_, ex⟩ | ⟨_, K6, ex, _, _⟩
        · rw [bv_n ex]; rw [ex] at S; exact S
        · rw [bv_n ex]; rw [ex] at S; exact S
    have q4 : r' 384 (a0 + 4).toNatClampNeg = 4 ↔ k = 4 := eq_n hc k4
    by_cases c26 : c = 26
    · rw [if_pos (s26.mpr c26)]
      have n33 : c ≠ 33 := by rw [c26]; decide
      rcases hK with ⟨_, y2, y3, y4, yE⟩ | ⟨_, y2, y3, y4, y5⟩ | ⟨_, y2, y4, y5⟩ | ⟨y1, _⟩ | ⟨y1, _⟩ | ⟨y1, _⟩
      · rw [if_neg (show ¬ r' 384 (a0 + 4).toNatClampNeg = 4 from fun z => by have := q4.mp z; omega)]
        obtain ⟨I3, J3, f1, f2, f3⟩ := RST_n (mj := mj) (mq := mq) h3 hb hR hle.2.2.1 ht2
        rw [bv_n f1]
        obtain ⟨n1, n2⟩ := tm_nx h3 hR n33 f2 ht2
        have f2' := f2
        obtain ⟨_, ⟨_, _, u3⟩, _, _⟩ := f2'
        rw [bn_n (name_d u3), if_pos (show (0 : Int32) ≤ nmC c2 from Int32.not_lt.mp (nmC_ge y3))]
        rw [bn_n (name_d u3)]
        exact tail e2 c2 v2 s2 e I3 J3 _ y4 (fun z => by rw [z] at y3; exact absurd y3.2 (by decide)) ht2 (RST_fr f2 (fun _ _ => rfl) (fun t h => by rw [va_up_ne _ _ h, va_up_ne _ _ h])) (cnt_up hA hA2 hc hk) y2 (by omega) (-c2) (Or.inr (by rw [ng_i (c := c2) (by omega)]; omega)) (by rw [yE, hE2, emL_app]) (by rw [kmL_snoc, ← hG]; exact km_v (kr_neg y3)) ((f3 398 (by decide) (by decide) (by decide) (by decide)).trans hw) ((f3 396 (by decide) (by decide) (by decide) (by decide)).trans hbb) (by have := (TKC_le ht2).2.1; have := TKC_le ht2; have := hle.2.2.2.2 (by rcases ht.2 with ⟨_, _, w3⟩ | ⟨w1, _⟩ | ⟨w1, _⟩ | ⟨w1, _⟩; exact absurd w3 n33; exact w1; exact w1; exact w1); omega)
      · rw [if_neg (show ¬ r' 384 (a0 + 4).toNatClampNeg = 4 from fun z => by have := q4.mp z; omega)]
        obtain ⟨I3, J3, f1, f2, f3⟩ := RST_n (mj := mj) (mq := mq) h3 hb hR hle.2.2.1 ht2
        rw [bv_n f1]
        have f2' := f2
        obtain ⟨_, ⟨_, u2, u3⟩, _, _⟩ := f2'
        rw [bn_n (name_d u3), if_neg (show ¬ (0 : Int32) ≤ nmC c2 from Int32.not_le.mpr (nmC_lt y3)), clf (by rw [y4]; decide)]
        exact ⟨1, I3, J3, r', rfl, Or.inl ⟨by decide, s2, u2, ⟨K, rk, rfl, y4, y5⟩, zk _⟩⟩
      · rw [if_pos (q4.mpr (by omega)), clf (by rw [y4]; decide)]
        exact ⟨5, I', J', r', rfl, Or.inl ⟨by decide, s, b2, ⟨K, rk, rfl, y4, y5⟩, zk _⟩⟩
      · exact absurd c26 y1
      · exact absurd c26 y1
      · exact absurd c26 y1
    · rw [if_neg (fun z => c26 (s26.mp z)), bn_n (name_d b3)]
      rcases hK with ⟨y1, _⟩ | ⟨y1, _⟩ | ⟨y1, _⟩ | ⟨_, y2, y4, y5⟩ | ⟨_, y2, y3, y4, yE⟩ | ⟨_, y2, y3, y4, y5⟩
      · exact absurd y1 c26
      · exact absurd y1 c26
      · exact absurd y1 c26
      · rw [if_pos (nmC_lt y2), bn_n (name_d b3), if_neg (show ¬ (0 : Int32) ≤ nmC c from Int32.not_le.mpr (nmC_lt y2)), clf (by rw [y4]; decide)]
        exact ⟨1, I', J', r', rfl, Or.inl ⟨by decide, s, b2, ⟨K, rk, rfl, y4, y5⟩, zk _⟩⟩
      · rw [if_neg (nmC_ge y2), if_neg (show ¬ r' 384 (a0 + 4).toNatClampNeg = 4 from fun z => by have := q4.mp z; omega), bn_n (name_d b3), if_pos (show (0 : Int32) ≤ nmC c from Int32.not_lt.mp (nmC_ge y2))]
        rw [bn_n (name_d b3)]
        exact tail e c v s p I' J' _ y4 (fun z => by rw [z] at y2; exact absurd y2.2 (by decide)) ht (RST_fr hR (fun _ _ => rfl) (fun t h => by rw [va_up_ne _ _ h, va_up_ne _ _ h])) (cnt_up hA hA2 hc hk) y3 (by omega) c (Or.inl y2) (by rw [yE, hE2, emL_app]) (by rw [kmL_snoc, ← hG]; exact km_v (kr_pos y2)) hw hbb (by have := hle.2.2.2.2 (by rcases ht.2 with ⟨_, _, w3⟩ | ⟨w1, _⟩ | ⟨w1, _⟩ | ⟨w1, _⟩; exact absurd w3 (fun z => by rw [z] at y2; exact absurd y2.2 (by decide)); exact w1; exact w1; exact w1); omega)
      · rw [if_neg (nmC_ge y2), if_pos (q4.mpr (by omega)), clf (by rw [y4]; decide)]
        exact ⟨5, I', J', r', rfl, Or.inl ⟨by decide, s, b2, ⟨K, rk, rfl, y4, y5⟩, zk _⟩⟩
theorem keys_sim {n : Nat} {T : Nat → Int32} (h3 : n ≤ 300) (hb : ∀ j, j < n → 0 ≤ (T j).toInt) {a0 : Int32} {A : Nat} (hA : a0.toInt = (A : Int)) (hA2 : A ≤ 100000) {p : Nat} {I : Nat → Int32} {r : Nat → Nat → Int32} (hp : PST n p T I r) {c v : Int32} {s e : Nat} (ht : TKC T n p c s e v) {I' : Nat → Int32} {J' : Nat → Int64} {r' : Nat → Nat → Int32} {P : List Int32} (hR : RST n T c v s e P 0 I' J' r') : ERES J rj rq mj mq n T (CKE a0 (ES I r) (upd (r' 384) (a0 + 4).toNatClampNeg 0) (I' 398) (I' 396) p) (ZKE a0 (upd (r' 384) (a0 + 4).toNatClampNeg 0)) (g_X4_readKeys I J r rj rq) (g_X12_keys a0 I' J' r' mj mq) (tmM (I' 391).toInt (I' 393).toInt) := by
  rw [g_X4_readKeys_e, g_X12_keys_e]
  try simp only [↓ap1_n]
  have k0 : (0 : Int32).toInt = 0 := by decide
  exact keys_L h3 hb hA hA2 _ _ 0 0 I r I' J' _ P p c v s e (by decide) (by decide) (by rw [k0]; omega) (Nat.lt_succ_self _) hp ht (RST_fr hR (fun _ _ => rfl) (fun t h => va_up_ne _ _ h)) (by rw [va_up_self, upd_s]; decide) [] rfl (va_up_self _ _ _) rfl rfl (by show 0 + p ≤ p; omega) rfl (fun y hy => by cases hy)
end PR11
