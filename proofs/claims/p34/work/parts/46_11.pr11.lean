/-! ===== pure: a number, KEYS, both sides ===== -/
section PR11
variable {J : Nat → Int64} {rj : Nat → Nat → Int64} {rq : Nat → Nat → Option Nat} {mj : Nat → Nat → Int64} {mq : Nat → Nat → Option Nat}
theorem exp_v {I : Nat → Int32} {r : Nat → Nat → Int32} (h0 : I 129 = 0) : (I 194 = 32 ∧ g_X4_expectSemicolon I J r rj rq = (I, J, r, rj, rq)) ∨ (I 194 ≠ 32 ∧ ∃ K : Nat → Int32, g_X4_expectSemicolon I J r rj rq = (K, J, r, rj, rq) ∧ K 129 = 1 ∧ K 130 = I 195) := by
  rw [g_X4_expectSemicolon_e]
  try simp only [↓ap1_n]
  by_cases q : I 194 = 32
  · rw [if_pos q]; exact Or.inl ⟨q, rfl⟩
  · rw [if_neg q, bv_n (refuse_c h0)]
    exact Or.inr ⟨q, _, rfl, refuse_1.1, refuse_1.2⟩
theorem exp_f {I : Nat → Int32} {r : Nat → Nat → Int32} (h0 : I 129 ≠ 0) : g_X4_expectSemicolon I J r rj rq = (I, J, r, rj, rq) := by
  rw [g_X4_expectSemicolon_e]
  try simp only [↓ap1_n]
  by_cases q : I 194 = 32
  · rw [if_pos q]
  · rw [if_neg q, g_X4_refuse_e]
    try simp only [↓ap1_n]
    rw [if_neg h0, bv_n rfl]
theorem nv_le {v w a : Int32} (h : nvE v w) (ha : a.toInt ≤ 9999) : v ≤ a ↔ w ≤ a := by
  rw [Int32.le_iff_toInt_le, Int32.le_iff_toInt_le]
  rcases h with ⟨h1, h2, h3⟩ | ⟨h1, h2, h3⟩
  · rw [h3]
  · omega
/-- the state of the class ahead of a TOKEN -/
def PST (n p : Nat) (T : Nat → Int32) (I : Nat → Int32) (r : Nat → Nat → Int32) : Prop := (I 193).toInt = (n : Int) ∧ r 192 = T ∧ (I 197).toInt = (p : Int) ∧ p ≤ n ∧ I 129 = 0
/-- what a number has told -/
def CNU (S0 : Int32 × (Nat → Int32)) (G : Nat → Int32) (x : Nat) (w0 bb : Int32) (p0 : Nat) : ((Nat → Int32) → (Nat → Nat → Int32) → (Nat → Int32) → (Nat → Nat → Int32) → Nat → Prop) := fun If rf I1 r1 p2 => ∃ w : Int32, ES If rf = emL S0 [w] ∧ r1 384 = upd G x w ∧ I1 398 = w0 ∧ I1 396 = bb ∧ 1 + p0 ≤ p2
/-- a key of the class in the reference -/
def kr (k : Int32) : Int32 := if 0 ≤ k then nmC k else -1 - nmC (-k)
def km1 (a0 : Int32) (f : Nat → Int32) (k : Int32) : Nat → Int32 := upd (upd f (a0 + 5 + f (a0 + 4).toNatClampNeg).toNatClampNeg (kr k)) (a0 + 4).toNatClampNeg (upd f (a0 + 5 + f (a0 + 4).toNatClampNeg).toNatClampNeg (kr k) (a0 + 4).toNatClampNeg + 1)
def kmL (a0 : Int32) (f : Nat → Int32) : List Int32 → Nat → Int32
  | [] => f
  | k :: X => kmL a0 (km1 a0 f k) X
theorem kmL_snoc {a0 k : Int32} : ∀ (X : List Int32) (f : Nat → Int32), kmL a0 f (X ++ [k]) = km1 a0 (kmL a0 f X) k
  | [], _ => rfl
  | y :: X, f => kmL_snoc X (km1 a0 f y)
theorem km_v {a0 val k : Int32} {r : Nat → Nat → Int32} (h : kr k = val) : (va_up (va_up r 384 (upd (r 384) (a0 + 5 + r 384 (a0 + 4).toNatClampNeg).toNatClampNeg val)) 384 (upd (va_up r 384 (upd (r 384) (a0 + 5 + r 384 (a0 + 4).toNatClampNeg).toNatClampNeg val) 384) (a0 + 4).toNatClampNeg (va_up r 384 (upd (r 384) (a0 + 5 + r 384 (a0 + 4).toNatClampNeg).toNatClampNeg val) 384 (a0 + 4).toNatClampNeg + 1))) 384 = km1 a0 (r 384) k := by
  unfold km1
  rw [h]
  simp only [va_up_self]
theorem kr_pos {c : Int32} (h : 12 ≤ c.toInt ∧ c.toInt ≤ 17) : kr c = nmC c := by
  have k0 : (0 : Int32).toInt = 0 := by decide
  exact if_pos (Int32.le_iff_toInt_le.mpr (by omega))
theorem kr_neg {c : Int32} (h : 12 ≤ c.toInt ∧ c.toInt ≤ 17) : kr (-c) = -1 - nmC c := by
  have d : c.toInt = 12 ∨ c.toInt = 13 ∨ c.toInt = 14 ∨ c.toInt = 15 ∨ c.toInt = 16 ∨ c.toInt = 17 := by omega
  rcases d with d | d | d | d | d | d
  · rw [to_k (c := c) (k := 12) d (by decide)]; decide
  · rw [to_k (c := c) (k := 13) d (by decide)]; decide
  · rw [to_k (c := c) (k := 14) d (by decide)]; decide
  · rw [to_k (c := c) (k := 15) d (by decide)]; decide
  · rw [to_k (c := c) (k := 16) d (by decide)]; decide
  · rw [to_k (c := c) (k := 17) d (by decide)]; decide
/-- a KEY -/
def KYN (y : Int32) : Prop := (12 ≤ y.toInt ∧ y.toInt ≤ 17) ∨ (-17 ≤ y.toInt ∧ y.toInt ≤ -12)
/-- what KEYS have told -/
def CKE (a0 : Int32) (S0 : Int32 × (Nat → Int32)) (G : Nat → Int32) (w0 bb : Int32) (p0 : Nat) : ((Nat → Int32) → (Nat → Nat → Int32) → (Nat → Int32) → (Nat → Nat → Int32) → Nat → Prop) := fun If rf I1 r1 p2 => ∃ E : List Int32, ES If rf = emL S0 E ∧ r1 384 = kmL a0 G E ∧ I1 398 = w0 ∧ I1 396 = bb ∧ E.length + p0 ≤ p2 ∧ E.length ≤ 4 ∧ ∀ y, y ∈ E → KYN y
def ZNU (G : Nat → Int32) (x : Nat) : (Nat → Int32) → (Nat → Nat → Int32) → Prop := fun _ r1 => ∀ j, j ≠ x → r1 384 j = G j
def ZKE (a0 : Int32) (G : Nat → Int32) : (Nat → Int32) → (Nat → Nat → Int32) → Prop := fun _ r1 => ∃ X : List Int32, r1 384 = kmL a0 G X ∧ X.length ≤ 4
/-- the class takes the next TOKEN -/
theorem PST_n {n p : Nat} {T : Nat → Int32} (h3 : n ≤ 300) {I : Nat → Int32} {r : Nat → Nat → Int32} (h : PST n p T I r) {c v : Int32} {s e : Nat} (ht : TKC T n p c s e v) : ∃ I2 : Nat → Int32, g_X6_advance I J r rj rq = (I2, J, r, rj, rq) ∧ I2 194 = c ∧ (I2 195).toInt = (s : Int) ∧ (c = 18 → I2 196 = v) ∧ PST n e T I2 r ∧ ∀ f, f ≠ 194 → f ≠ 195 → f ≠ 196 → f ≠ 197 → I2 f = I f := by
  obtain ⟨a1, a2, a3, a4, a5⟩ := h
  obtain ⟨I2, i1, i2, i3, i4, i5, i6⟩ := adv_v (J := J) (ri := r) (rj := rj) (rq := rq) h3 a1 a3 a4 (by rw [a2]; exact ht)
  exact ⟨I2, i1, i2, i3, i5, ⟨by rw [i6 193 (by decide) (by decide) (by decide) (by decide)]; exact a1, a2, i4, (TKC_le ht).2.2.1, by rw [i6 129 (by decide) (by decide) (by decide) (by decide)]; exact a5⟩, i6⟩
theorem PST_fr {n p : Nat} {T : Nat → Int32} {I I' : Nat → Int32} {r r' : Nat → Nat → Int32} (h : PST n p T I r) (hI : ∀ f, f ≠ 132 → I' f = I f) (hr : ∀ t, t ≠ 259 → r' t = r t) : PST n p T I' r' := by
  obtain ⟨a1, a2, a3, a4, a5⟩ := h
  exact ⟨by rw [hI 193 (by decide)]; exact a1, by rw [hr 192 (by decide)]; exact a2, by rw [hI 197 (by decide)]; exact a3, a4, by rw [hI 129 (by decide)]; exact a5⟩
/-- ; is looked for: both sides -/
theorem semi_r {C : (Nat → Int32) → (Nat → Nat → Int32) → (Nat → Int32) → (Nat → Nat → Int32) → Nat → Prop} {Z : (Nat → Int32) → (Nat → Nat → Int32) → Prop} {n : Nat} {T : Nat → Int32} {p2 : Nat} {c2 v2 : Int32} {s2 e2 : Nat} {P2 : List Int32} {I2 : Nat → Int32} {r2 : Nat → Nat → Int32} {I1 : Nat → Int32} {J1 : Nat → Int64} {r1 : Nat → Nat → Int32} {tm0 : Int} (hp : PST n e2 T I2 r2) (g1 : I2 194 = c2) (g2 : (I2 195).toInt = (s2 : Int)) (ht : TKC T n p2 c2 s2 e2 v2) (hR : RST n T c2 v2 s2 e2 P2 0 I1 J1 r1) (htm : tmM (I1 391).toInt (I1 393).toInt < tm0) (hC : C I2 r2 I1 r1 p2) (hZ : Z I1 r1) : ERES J rj rq mj mq n T C Z (g_X4_expectSemicolon I2 J r2 rj rq) (0, I1, J1, r1, mj, mq) tm0 := by
  obtain ⟨a1, a2, a3, a4, a5⟩ := hp
  refine ⟨0, I1, J1, r1, rfl, Or.inr ⟨rfl, p2, c2, v2, s2, e2, P2, ht, hR, ?_, htm⟩⟩
  rcases exp_v (J := J) (r := r2) (rj := rj) (rq := rq) a5 with ⟨q, e⟩ | ⟨q, K, e, k1, k2⟩
  · exact Or.inl ⟨g1.symm.trans q, I2, r2, e, a5, a1, a2, a3, hC⟩
  · exact Or.inr ⟨fun y => q (g1.trans y), ⟨K, r2, e, k1, by rw [k2]; exact g2⟩, hZ⟩
theorem num_sim {n : Nat} {T : Nat → Int32} (h3 : n ≤ 300) (hb : ∀ j, j < n → 0 ≤ (T j).toInt) {a x : Int32} (ha : a.toInt ≤ 9999) {p : Nat} {I : Nat → Int32} {r : Nat → Nat → Int32} (hp : PST n p T I r) {c v : Int32} {s e : Nat} (ht : TKC T n p c s e v) {I' : Nat → Int32} {J' : Nat → Int64} {r' : Nat → Nat → Int32} {P : List Int32} (hR : RST n T c v s e P 0 I' J' r') : ERES J rj rq mj mq n T (CNU (ES I r) (r' 384) x.toNatClampNeg (I' 398) (I' 396) p) (ZNU (r' 384) x.toNatClampNeg) (g_X4_readNumber a I J r rj rq) (g_X12_take a x I' J' r' mj mq) (tmM (I' 391).toInt (I' 393).toInt) := by
  obtain ⟨I2, i1, i2, i3, i4, hp2, iF⟩ := PST_n (J := J) (rj := rj) (rq := rq) h3 hp ht
  have hR' := hR
  obtain ⟨⟨a1, a2⟩, ⟨b1, b2, b3⟩, _, _⟩ := hR'
  obtain ⟨t0, t18, t33, s19, s20, s21, s22, s23, s24, s25, s26, s27, s28, s29, s30, s31, s32, t2, tv, tw⟩ := b3
  rw [g_X4_readNumber_e, g_X12_take_e]
  try simp only [↓ap1_n]
  rw [bv_n i1]
  have rf : ∀ k : Int32, k ≠ 0 → FIN J rj rq k s (va_up (va_up I2 129 k) 130 (I2 195), J, r, rj, rq) := fun k hk => ⟨_, r, rfl, refuse_1.1, by rw [refuse_1.2]; exact i3⟩
  by_cases q : c = 18
  · rw [if_pos (i2.trans q), if_pos (t18.mpr q), i4 q]
    by_cases hv : v ≤ a
    · rw [if_pos hv, if_pos ((nv_le (tv q) ha).mp hv)]
      obtain ⟨I3, r3, e1, e2, e3, e4⟩ := emit_c (J := J) (ri := r) (rj := rj) (rq := rq) (a := v) (I := I2)
      rw [bv_n e1]
      have hp3 := PST_fr hp2 e2 e3
      obtain ⟨c2, s2, e2', v2, ht2⟩ := TKC_ex T hp2.2.2.2.1
      obtain ⟨I4, j1, j2, j3, _, hp4, jF⟩ := PST_n (J := J) (rj := rj) (rq := rq) h3 hp3 ht2
      rw [bv_n j1]
      have hR2 : RST n T c v s e P 0 I' J' (va_up r' 384 (upd (r' 384) x.toNatClampNeg (I' 394))) := RST_fr hR (fun _ _ => rfl) (fun t h => va_up_ne _ _ h)
      obtain ⟨I5, J5, f1, f2, f3⟩ := RST_n (mj := mj) (mq := mq) h3 hb hR2 (TKC_le ht).2.2.1 ht2
      rw [bv_n f1]
      obtain ⟨n1, _⟩ := tm_nx h3 hR2 (by rw [q]; decide) f2 ht2
      have vw : v = I' 394 := by
        rcases tv q with ⟨_, _, u⟩ | ⟨_, _, u⟩
        · exact u
        · have := Int32.le_iff_toInt_le.mp hv
          omega
      have hse := (TKC_le ht).2.2.2.2 (by
        rcases ht.2 with ⟨_, _, w3⟩ | ⟨w1, _⟩ | ⟨w1, _⟩ | ⟨w1, _⟩
        · rw [q] at w3; exact absurd w3 (by decide)
        · exact w1
        · exact w1
        · exact w1)
      have hle := TKC_le ht
      have hCC : CNU (ES I r) (r' 384) x.toNatClampNeg (I' 398) (I' 396) p I4 r3 I5 (va_up r' 384 (upd (r' 384) x.toNatClampNeg (I' 394))) e := ⟨I' 394, by
        rw [ES_eq (jF 132 (by decide) (by decide) (by decide) (by decide)) rfl, e4, ES_eq (iF 132 (by decide) (by decide) (by decide) (by decide)) rfl, vw]
        rfl, va_up_self _ _ _, f3 398 (by decide) (by decide) (by decide) (by decide), f3 396 (by decide) (by decide) (by decide) (by decide), by omega⟩
      have S := semi_r (J := J) (rj := rj) (rq := rq) (mj := mj) (mq := mq) hp4 j2 j3 ht2 f2 n1 hCC (show ZNU (r' 384) x.toNatClampNeg I5 _ from fun j hj => by rw [va_up_self]; exact upd_n _ _ hj)
      rcases exp_v (J := J) (r := r3) (rj := rj) (rq := rq) hp4.2.2.2.2 with ⟨_, ex⟩ | ⟨_, K, ex, _, _⟩
      · rw [bv_n ex]; rw [ex] at S; exact S
      · rw [bv_n ex]; rw [ex] at S; exact S
    · rw [if_neg hv, if_neg (fun y => hv ((nv_le (tv q) ha).mpr y)), bv_n (refuse_c hp2.2.2.2.2)]
      exact ⟨2, I', J', r', rfl, Or.inl ⟨by decide, s, b2, rf 2 (by decide), fun _ _ => rfl⟩⟩
  · rw [if_neg (fun y => q (i2.symm.trans y)), if_neg (fun y => q (t18.mp y)), bv_n (refuse_c hp2.2.2.2.2)]
    exact ⟨1, I', J', r', rfl, Or.inl ⟨by decide, s, b2, rf 1 (by decide), fun _ _ => rfl⟩⟩
/-! KEYS -/
theorem isN_0 {c : Int32} (h : ¬ (12 ≤ c.toInt ∧ c.toInt ≤ 17)) : g_X4_isName c = 0 := by
  have k1 : (12 : Int32).toInt = 12 := by decide
  have k2 : (17 : Int32).toInt = 17 := by decide
  rw [g_X4_isName_e]
  by_cases a : c < 12
  · rw [if_pos a]
  · have a1 := Int32.le_iff_toInt_le.mp (Int32.not_lt.mp a)
    rw [if_neg a, if_pos (show 17 < c from Int32.lt_iff_toInt_lt.mpr (by omega))]
theorem isN_1 {c : Int32} (h : 12 ≤ c.toInt ∧ c.toInt ≤ 17) : g_X4_isName c = 1 := by
  have k1 : (12 : Int32).toInt = 12 := by decide
  have k2 : (17 : Int32).toInt = 17 := by decide
  rw [g_X4_isName_e, if_neg (show ¬ c < 12 from fun q => by have q1 := Int32.lt_iff_toInt_lt.mp q; omega), if_neg (show ¬ 17 < c from fun q => by have q1 := Int32.lt_iff_toInt_lt.mp q; omega)]
/-- how the class reads one key -/
theorem key_v {x : Int32} {k : Nat} (hx : x.toInt = (k : Int)) {n p : Nat} {T : Nat → Int32} (h3 : n ≤ 300) {I : Nat → Int32} {r : Nat → Nat → Int32} (hp : PST n p T I r) {c : Int32} {s : Nat} (g1 : I 194 = c) (g2 : (I 195).toInt = (s : Int)) {c2 v2 : Int32} {s2 e2 : Nat} (ht : TKC T n p c2 s2 e2 v2) : ∃ (K : Nat → Int32) (rk : Nat → Nat → Int32), g_X4_readKey x I J r rj rq = (K, J, rk, rj, rq) ∧ ((c = 26 ∧ k < 4 ∧ (12 ≤ c2.toInt ∧ c2.toInt ≤ 17) ∧ PST n e2 T K rk ∧ ES K rk = emL (ES I r) [-c2]) ∨ (c = 26 ∧ k < 4 ∧ ¬ (12 ≤ c2.toInt ∧ c2.toInt ≤ 17) ∧ K 129 = 1 ∧ (K 130).toInt = (s2 : Int)) ∨ (c = 26 ∧ ¬ k < 4 ∧ K 129 = 5 ∧ (K 130).toInt = (s : Int)) ∨ (c ≠ 26 ∧ ¬ (12 ≤ c.toInt ∧ c.toInt ≤ 17) ∧ K 129 = 1 ∧ (K 130).toInt = (s : Int)) ∨ (c ≠ 26 ∧ (12 ≤ c.toInt ∧ c.toInt ≤ 17) ∧ k < 4 ∧ PST n p T K rk ∧ ES K rk = emL (ES I r) [c]) ∨ (c ≠ 26 ∧ (12 ≤ c.toInt ∧ c.toInt ≤ 17) ∧ ¬ k < 4 ∧ K 129 = 5 ∧ (K 130).toInt = (s : Int))) := by
  have k4 : (4 : Int32).toInt = 4 := by decide
  have lt : x < 4 ↔ k < 4 := by rw [Int32.lt_iff_toInt_lt, k4]; omega
  rw [g_X4_readKey_e]
  try simp only [↓ap1_n]
  -- a fault, then what is written
  have fl : ∀ (a b : Int32) (I : Nat → Int32) (s : Nat), (I 195).toInt = (s : Int) → ∃ (K : Nat → Int32) (rk : Nat → Nat → Int32), g_X4_emit b (va_up (va_up I 129 a) 130 (I 195)) J r rj rq = (K, J, rk, rj, rq) ∧ K 129 = a ∧ (K 130).toInt = (s : Int) := fun a b I s hs => by
    obtain ⟨K, rk, e1, e2, e3, -⟩ := emit_c (J := J) (ri := r) (rj := rj) (rq := rq) (a := b) (I := va_up (va_up I 129 a) 130 (I 195))
    exact ⟨K, rk, e1, by rw [e2 129 (by decide)]; exact refuse_1.1, by rw [e2 130 (by decide), refuse_1.2]; exact hs⟩
  by_cases q : c = 26
  · rw [if_pos (g1.trans q)]
    by_cases hk : k < 4
    · rw [if_pos (lt.mpr hk)]
      obtain ⟨I2, i1, i2, i3, i4, hp2, iF⟩ := PST_n (J := J) (rj := rj) (rq := rq) h3 hp ht
      rw [bv_n i1]
      by_cases hn : 12 ≤ c2.toInt ∧ c2.toInt ≤ 17
      · rw [i2, isN_1 hn, if_neg (show ¬ (1 : Int32) = 0 by decide)]
        obtain ⟨K, rk, e1, e2, e3, e4⟩ := emit_c (J := J) (ri := r) (rj := rj) (rq := rq) (a := -c2) (I := I2)
        rw [bv_n e1]
        rw [ES_eq (iF 132 (by decide) (by decide) (by decide) (by decide)) rfl] at e4
        exact ⟨K, rk, rfl, Or.inl ⟨q, hk, hn, PST_fr hp2 e2 e3, e4⟩⟩
      · rw [i2, isN_0 hn, if_pos (show (0 : Int32) = 0 from rfl), bv_n (refuse_c hp2.2.2.2.2)]
        obtain ⟨K, rk, e1, e2, e3⟩ := fl 1 (-(va_up (va_up I2 129 1) 130 (I2 195) 194)) I2 s2 i3
        rw [bv_n e1]
        exact ⟨K, rk, rfl, Or.inr (Or.inl ⟨q, hk, hn, e2, e3⟩)⟩
    · rw [if_neg (fun y => hk (lt.mp y)), bv_n (refuse_c hp.2.2.2.2)]
      obtain ⟨K, rk, e1, e2, e3⟩ := fl 5 (-(va_up (va_up I 129 5) 130 (I 195) 194)) I s g2
      rw [bv_n e1]
      exact ⟨K, rk, rfl, Or.inr (Or.inr (Or.inl ⟨q, hk, e2, e3⟩))⟩
  · rw [if_neg (fun y => q (g1.symm.trans y)), g1]
    by_cases hn : 12 ≤ c.toInt ∧ c.toInt ≤ 17
    · rw [isN_1 hn, if_neg (show ¬ (1 : Int32) = 0 by decide)]
      by_cases hk : k < 4
      · rw [if_pos (lt.mpr hk)]
        obtain ⟨K, rk, e1, e2, e3, e4⟩ := emit_c (J := J) (ri := r) (rj := rj) (rq := rq) (a := c) (I := I)
        rw [bv_n e1]
        exact ⟨K, rk, rfl, Or.inr (Or.inr (Or.inr (Or.inr (Or.inl ⟨q, hn, hk, PST_fr hp e2 e3, e4⟩))))⟩
      · rw [if_neg (fun y => hk (lt.mp y)), bv_n (refuse_c hp.2.2.2.2)]
        obtain ⟨K, rk, e1, e2, e3⟩ := fl 5 (va_up (va_up I 129 5) 130 (I 195) 194) I s g2
        rw [bv_n e1]
        exact ⟨K, rk, rfl, Or.inr (Or.inr (Or.inr (Or.inr (Or.inr ⟨q, hn, hk, e2, e3⟩))))⟩
    · rw [isN_0 hn, if_pos (show (0 : Int32) = 0 from rfl), bv_n (refuse_c hp.2.2.2.2)]
      obtain ⟨K, rk, e1, e2, e3⟩ := fl 1 (va_up (va_up I 129 1) 130 (I 195) 194) I s g2
      rw [bv_n e1]
      exact ⟨K, rk, rfl, Or.inr (Or.inr (Or.inr (Or.inl ⟨q, hn, e2, e3⟩)))⟩
/-- behind a fault the class reads no further key -/
theorem KL_f {m : Nat} {x d : Int32} {I : Nat → Int32} {r : Nat → Nat → Int32} (h : I 129 ≠ 0) : g_X4_readKeys_L4 J rj rq m x d I r = (I, J, r, rj, rq) := by
  cases m with
  | zero => rfl
  | succ m =>
    rw [g_X4_readKeys_L4_e]
    try simp only [↓ap1_n]
    by_cases a : d = 0
    · rw [if_pos a, bv_n (exp_f h)]
    · rw [if_neg a]
      by_cases b : 4 < x
      · rw [if_pos b, bv_n (exp_f h)]
      · rw [if_neg b, if_neg h, bv_n (exp_f h)]
theorem cnt_up {a0 val : Int32} {A k : Nat} (hA : a0.toInt = (A : Int)) (hA2 : A ≤ 100000) {r : Nat → Nat → Int32} (hk : (r 384 (a0 + 4).toNatClampNeg).toInt = (k : Int)) (k4 : k ≤ 4) : (va_up (va_up r 384 (upd (r 384) (a0 + 5 + r 384 (a0 + 4).toNatClampNeg).toNatClampNeg val)) 384 (upd (va_up r 384 (upd (r 384) (a0 + 5 + r 384 (a0 + 4).toNatClampNeg).toNatClampNeg val) 384) (a0 + 4).toNatClampNeg (va_up r 384 (upd (r 384) (a0 + 5 + r 384 (a0 + 4).toNatClampNeg).toNatClampNeg val) 384 (a0 + 4).toNatClampNeg + 1)) 384 (a0 + 4).toNatClampNeg).toInt = ((k + 1 : Nat) : Int) := by
  have e4 : (a0 + 4).toInt = ((A + 4 : Nat) : Int) := by
    have := i_add hA (show (4 : Int32).toInt = 4 by decide) (by omega) (by omega)
    omega
  have e5 : (a0 + 5).toInt = ((A + 5 : Nat) : Int) := by
    have := i_add hA (show (5 : Int32).toInt = 5 by decide) (by omega) (by omega)
    omega
  have e6 : (a0 + 5 + r 384 (a0 + 4).toNatClampNeg).toInt = ((A + 5 + k : Nat) : Int) := by
    have := i_add e5 hk (by omega) (by omega)
    omega
  simp only [va_up_self, upd_s]
  rw [at_n e6, upd_n (r 384) val (show (a0 + 4).toNatClampNeg ≠ A + 5 + k by rw [at_n e4]; omega)]
  exact upN hk (by omega)
theorem keys_L {n : Nat} {T : Nat → Int32} (h3 : n ≤ 300) (hb : ∀ j, j < n → 0 ≤ (T j).toInt) {a0 : Int32} {A : Nat} (hA : a0.toInt = (A : Int)) (hA2 : A ≤ 100000) {S0 : Int32 × (Nat → Int32)} {G0 : Nat → Int32} {w0 bb : Int32} {p0 : Nat} : ∀ (m mm : Nat) (x : Int32) (k : Nat) (I : Nat → Int32) (r : Nat → Nat → Int32) (I' : Nat → Int32) (J' : Nat → Int64) (r' : Nat → Nat → Int32) (P : List Int32) (p : Nat) (c v : Int32) (s e : Nat), x.toInt = (k : Int) → k ≤ 4 → 5 - k < m → (tmM (I' 391).toInt (I' 393).toInt).toNat < mm → PST n p T I r → TKC T n p c s e v → RST n T c v s e P 0 I' J' r' → (r' 384 (a0 + 4).toNatClampNeg).toInt = (k : Int) → ∀ E : List Int32, ES I r = emL S0 E → r' 384 = kmL a0 G0 E → I' 398 = w0 → I' 396 = bb → E.length + p0 ≤ p → E.length = k → (∀ y, y ∈ E → KYN y) → ERES J rj rq mj mq n T (CKE a0 S0 G0 w0 bb p0) (ZKE a0 G0) (g_X4_readKeys_L4 J rj rq m x 1 I r) (g_X12_keys_L11 a0 mj mq mm 1 I' J' r') (tmM (I' 391).toInt (I' 393).toInt) := by
  intro m
  induction m with
  | zero => intro _ _ _ _ _ _ _ _ _ _ _ _ _ _ _ _ h; exact absurd h (Nat.not_lt_zero _)
  | succ m ih =>
    intro mm x k I r I' J' r' P p c v s e hx hk hm hmm hp ht hR hc E hE hG hw hbb hEl hEk hEK
    cases mm with
    | zero => exact absurd hmm (Nat.not_lt_zero _)
    | succ mm =>
    have hle := TKC_le ht
    obtain ⟨I2, i1, i2, i3, i4, hp2, iF⟩ := PST_n (J := J) (rj := rj) (rq := rq) h3 hp ht
    have hE2 : ES I2 r = emL S0 E := (ES_eq (iF 132 (by decide) (by decide) (by decide) (by decide)) rfl).trans hE
    obtain ⟨c2, s2, e2, v2, ht2⟩ := TKC_ex T hp2.2.2.2.1
    obtain ⟨K, rk, kk, hK⟩ := key_v (J := J) (rj := rj) (rq := rq) hx h3 hp2 i2 i3 ht2
    have k4 : (4 : Int32).toInt = ((4 : Nat) : Int) := by decide
    rw [g_X4_readKeys_L4_e, g_X12_keys_L11_e]
    try simp only [↓ap1_n]
    rw [if_neg (show ¬ (1 : Int32) = 0 by decide), if_neg (show ¬ (1 : Int32) = 0 by decide), if_neg (show ¬ (4 : Int32) < x from fun y => by have y1 := Int32.lt_iff_toInt_lt.mp y; omega), if_pos hp.2.2.2.2, bv_n i1, bv_n kk]
    have hR' := hR
    obtain ⟨⟨a1, a2⟩, ⟨b1, b2, b3⟩, _, _⟩ := hR'
    have b3' := b3
    obtain ⟨t0, t18, t33, s19, s20, s21, s22, s23, s24, s25, s26, s27, s28, s29, s30, s31, s32, t2, tv, tw⟩ := b3'
    have zk : ∀ I0 : Nat → Int32, ZKE a0 G0 I0 r' := fun _ => ⟨E, hG, by omega⟩
    -- the class at its end
    have clf : K 129 ≠ 0 → (if K 129 = 0 then bnV (g_X6_advance K J rk rj rq) fun (I6 : Nat → Int32) (_ : Nat → Int64) (_ : Nat → Nat → Int32) (_ : Nat → Nat → Int64) (_ : Nat → Nat → Option Nat) => (if I6 194 = 31 then g_X4_readKeys_L4 J rj rq m (x + Int32.ofInt 1) 1 I6 rk else g_X4_readKeys_L4 J rj rq m (x + Int32.ofInt 1) 0 I6 rk) else (if K 194 = 31 then g_X4_readKeys_L4 J rj rq m (x + Int32.ofInt 1) 1 K rk else g_X4_readKeys_L4 J rj rq m (x + Int32.ofInt 1) 0 K rk)) = (K, J, rk, rj, rq) := fun h => by
      rw [if_neg h]
      by_cases y : K 194 = 31
      · rw [if_pos y]; exact KL_f h
      · rw [if_neg y]; exact KL_f h
    -- behind a key
    have tail : ∀ (e3 : Nat) (c3 v3 : Int32) (s3 p3 : Nat) (I3 : Nat → Int32) (J3 : Nat → Int64) (r3 : Nat → Nat → Int32), PST n e3 T K rk → c3 ≠ 33 → TKC T n p3 c3 s3 e3 v3 → RST n T c3 v3 s3 e3 P 0 I3 J3 r3 → (r3 384 (a0 + 4).toNatClampNeg).toInt = ((k + 1 : Nat) : Int) → k < 4 → tmM (I3 391).toInt (I3 393).toInt ≤ tmM (I' 391).toInt (I' 393).toInt → ∀ y : Int32, KYN y → ES K rk = emL S0 (E ++ [y]) → r3 384 = kmL a0 G0 (E ++ [y]) → I3 398 = w0 → I3 396 = bb → E.length + 1 + p0 ≤ e3 → ERES J rj rq mj mq n T (CKE a0 S0 G0 w0 bb p0) (ZKE a0 G0) (if K 129 = 0 then bnV (g_X6_advance K J rk rj rq) fun (I6 : Nat → Int32) (_ : Nat → Int64) (_ : Nat → Nat → Int32) (_ : Nat → Nat → Int64) (_ : Nat → Nat → Option Nat) => (if I6 194 = 31 then g_X4_readKeys_L4 J rj rq m (x + Int32.ofInt 1) 1 I6 rk else g_X4_readKeys_L4 J rj rq m (x + Int32.ofInt 1) 0 I6 rk) else (if K 194 = 31 then g_X4_readKeys_L4 J rj rq m (x + Int32.ofInt 1) 1 K rk else g_X4_readKeys_L4 J rj rq m (x + Int32.ofInt 1) 0 K rk)) (bnV (g_X12_nextToken_x I3 J3 r3 mj mq) fun (I4 : Nat → Int32) (J4 : Nat → Int64) (_ : Nat → Nat → Int32) (_ : Nat → Nat → Int64) (_ : Nat → Nat → Option Nat) => (if I4 393 = 44 then bnV (g_X12_nextToken_x I4 J4 r3 mj mq) fun (I5 : Nat → Int32) (J5 : Nat → Int64) (_ : Nat → Nat → Int32) (_ : Nat → Nat → Int64) (_ : Nat → Nat → Option Nat) => g_X12_keys_L11 a0 mj mq mm 1 I5 J5 r3 else g_X12_keys_L11 a0 mj mq mm 0 I4 J4 r3)) (tmM (I' 391).toInt (I' 393).toInt) := fun e3 c3 v3 s3 p3 I3 J3 r3 hpk h33 ht3 hR3 hc3 hk4 htm y hyK hEy hGy hwy hby hly => by
      have hEK2 : ∀ z, z ∈ E ++ [y] → KYN z := fun z hz => by
        rcases List.mem_append.mp hz with h | h
        · exact hEK z h
        · rw [List.mem_singleton.mp h]; exact hyK
      have hlE : (E ++ [y]).length = E.length + 1 := by rw [List.length_append]; rfl
      obtain ⟨c4, s4, e4, v4, ht4⟩ := TKC_ex T hpk.2.2.2.1
      obtain ⟨I6, j1, j2, j3, _, hp6, jF⟩ := PST_n (J := J) (rj := rj) (rq := rq) h3 hpk ht4
      have hE6 : ES I6 rk = emL S0 (E ++ [y]) := (ES_eq (jF 132 (by decide) (by decide) (by decide) (by decide)) rfl).trans hEy
      have hle4 := TKC_le ht4
      obtain ⟨I4, J4, f1, f2, f3⟩ := RST_n (mj := mj) (mq := mq) h3 hb hR3 (TKC_le ht3).2.2.1 ht4
      rw [if_pos hpk.2.2.2.2, bv_n j1, bv_n f1]
      obtain ⟨n1, n2⟩ := tm_nx h3 hR3 h33 f2 ht4
      have f2' := f2
      obtain ⟨_, ⟨_, _, u3⟩, _, _⟩ := f2'
      obtain ⟨_, _, _, _, _, _, _, _, _, _, _, _, _, _, _, v31, _, _, _, _⟩ := u3
      by_cases q : c4 = 31
      · rw [if_pos (j2.trans q), if_pos (v31.mpr q)]
        obtain ⟨c5, s5, e5, v5, ht5⟩ := TKC_ex T hp6.2.2.2.1
        obtain ⟨I5, J5, g1, g2, g3⟩ := RST_n (mj := mj) (mq := mq) h3 hb f2 (TKC_le ht4).2.2.1 ht5
        rw [bv_n g1]
        obtain ⟨n3, n4⟩ := tm_nx h3 f2 (by rw [q]; decide) g2 ht5
        exact ERES_w (ih mm (x + Int32.ofInt 1) (k + 1) I6 rk I5 J5 r3 P e4 c5 v5 s5 e5 (up_i hx (by omega)) (by omega) (by omega) (by omega) hp6 ht5 g2 hc3 (E ++ [y]) hE6 hGy (((g3 398 (by decide) (by decide) (by decide) (by decide)).trans (f3 398 (by decide) (by decide) (by decide) (by decide))).trans hwy) (((g3 396 (by decide) (by decide) (by decide) (by decide)).trans (f3 396 (by decide) (by decide) (by decide) (by decide))).trans hby) (by omega) (by omega) hEK2) (by omega)
      · rw [if_neg (fun y => q (j2.symm.trans y)), if_neg (fun y => q (v31.mp y))]
        cases m with
        | zero => omega
        | succ m =>
        cases mm with
        | zero => omega
        | succ mm =>
        rw [g_X4_readKeys_L4_e, g_X12_keys_L11_e]
        try simp only [↓ap1_n]
        rw [if_pos trivial, if_pos trivial]
        have S := semi_r (J := J) (rj := rj) (rq := rq) (mj := mj) (mq := mq) hp6 j2 j3 ht4 f2 (tm0 := tmM (I' 391).toInt (I' 393).toInt) (by omega) (show CKE a0 S0 G0 w0 bb p0 I6 rk I4 r3 e3 from ⟨E ++ [y], hE6, hGy, (f3 398 (by decide) (by decide) (by decide) (by decide)).trans hwy, (f3 396 (by decide) (by decide) (by decide) (by decide)).trans hby, by omega, by omega, hEK2⟩) (show ZKE a0 G0 I4 r3 from ⟨E ++ [y], hGy, by omega⟩)
        rcases exp_v (J := J) (r := rk) (rj := rj) (rq := rq) hp6.2.2.2.2 with ⟨_, ex⟩ | ⟨_, K6, ex, _, _⟩
        · rw [bv_n ex]; rw [ex] at S; exact S
        · rw [bv_n ex]; rw [ex] at S; exact S
    have q4 : r' 384 (a0 + 4).toNatClampNeg = 4 ↔ k = 4 := eq_n hc k4
    by_cases c26 : c = 26
    · rw [if_pos (s26.mpr c26)]
      have n33 : c ≠ 33 := by rw [c26]; decide
      rcases hK with ⟨_, y2, y3, y4, yE⟩ | ⟨_, y2, y3, y4, y5⟩ | ⟨_, y2, y4, y5⟩ | ⟨y1, _⟩ | ⟨y1, _⟩ | ⟨y1, _⟩
      · rw [if_neg (show ¬ r' 384 (a0 + 4).toNatClampNeg = 4 from fun z => by have := q4.mp z; omega)]
        obtain ⟨I3, J3, f1, f2, f3⟩ := RST_n (mj := mj) (mq := mq) h3 hb hR hle.2.2.1 ht2
        rw [bv_n f1]
        obtain ⟨n1, n2⟩ := tm_nx h3 hR n33 f2 ht2
        have f2' := f2
        obtain ⟨_, ⟨_, _, u3⟩, _, _⟩ := f2'
        rw [bn_n (name_d u3), if_pos (show (0 : Int32) ≤ nmC c2 from Int32.not_lt.mp (nmC_ge y3))]
        rw [bn_n (name_d u3)]
        exact tail e2 c2 v2 s2 e I3 J3 _ y4 (fun z => by rw [z] at y3; exact absurd y3.2 (by decide)) ht2 (RST_fr f2 (fun _ _ => rfl) (fun t h => by rw [va_up_ne _ _ h, va_up_ne _ _ h])) (cnt_up hA hA2 hc hk) y2 (by omega) (-c2) (Or.inr (by rw [ng_i (c := c2) (by omega)]; omega)) (by rw [yE, hE2, emL_app]) (by rw [kmL_snoc, ← hG]; exact km_v (kr_neg y3)) ((f3 398 (by decide) (by decide) (by decide) (by decide)).trans hw) ((f3 396 (by decide) (by decide) (by decide) (by decide)).trans hbb) (by have := (TKC_le ht2).2.1; have := TKC_le ht2; have := hle.2.2.2.2 (by rcases ht.2 with ⟨_, _, w3⟩ | ⟨w1, _⟩ | ⟨w1, _⟩ | ⟨w1, _⟩; exact absurd w3 n33; exact w1; exact w1; exact w1); omega)
      · rw [if_neg (show ¬ r' 384 (a0 + 4).toNatClampNeg = 4 from fun z => by have := q4.mp z; omega)]
        obtain ⟨I3, J3, f1, f2, f3⟩ := RST_n (mj := mj) (mq := mq) h3 hb hR hle.2.2.1 ht2
        rw [bv_n f1]
        have f2' := f2
        obtain ⟨_, ⟨_, u2, u3⟩, _, _⟩ := f2'
        rw [bn_n (name_d u3), if_neg (show ¬ (0 : Int32) ≤ nmC c2 from Int32.not_le.mpr (nmC_lt y3)), clf (by rw [y4]; decide)]
        exact ⟨1, I3, J3, r', rfl, Or.inl ⟨by decide, s2, u2, ⟨K, rk, rfl, y4, y5⟩, zk _⟩⟩
      · rw [if_pos (q4.mpr (by omega)), clf (by rw [y4]; decide)]
        exact ⟨5, I', J', r', rfl, Or.inl ⟨by decide, s, b2, ⟨K, rk, rfl, y4, y5⟩, zk _⟩⟩
      · exact absurd c26 y1
      · exact absurd c26 y1
      · exact absurd c26 y1
    · rw [if_neg (fun z => c26 (s26.mp z)), bn_n (name_d b3)]
      rcases hK with ⟨y1, _⟩ | ⟨y1, _⟩ | ⟨y1, _⟩ | ⟨_, y2, y4, y5⟩ | ⟨_, y2, y3, y4, yE⟩ | ⟨_, y2, y3, y4, y5⟩
      · exact absurd y1 c26
      · exact absurd y1 c26
      · exact absurd y1 c26
      · rw [if_pos (nmC_lt y2), bn_n (name_d b3), if_neg (show ¬ (0 : Int32) ≤ nmC c from Int32.not_le.mpr (nmC_lt y2)), clf (by rw [y4]; decide)]
        exact ⟨1, I', J', r', rfl, Or.inl ⟨by decide, s, b2, ⟨K, rk, rfl, y4, y5⟩, zk _⟩⟩
      · rw [if_neg (nmC_ge y2), if_neg (show ¬ r' 384 (a0 + 4).toNatClampNeg = 4 from fun z => by have := q4.mp z; omega), bn_n (name_d b3), if_pos (show (0 : Int32) ≤ nmC c from Int32.not_lt.mp (nmC_ge y2))]
        rw [bn_n (name_d b3)]
        exact tail e c v s p I' J' _ y4 (fun z => by rw [z] at y2; exact absurd y2.2 (by decide)) ht (RST_fr hR (fun _ _ => rfl) (fun t h => by rw [va_up_ne _ _ h, va_up_ne _ _ h])) (cnt_up hA hA2 hc hk) y3 (by omega) c (Or.inl y2) (by rw [yE, hE2, emL_app]) (by rw [kmL_snoc, ← hG]; exact km_v (kr_pos y2)) hw hbb (by have := hle.2.2.2.2 (by rcases ht.2 with ⟨_, _, w3⟩ | ⟨w1, _⟩ | ⟨w1, _⟩ | ⟨w1, _⟩; exact absurd w3 (fun z => by rw [z] at y2; exact absurd y2.2 (by decide)); exact w1; exact w1; exact w1); omega)
      · rw [if_neg (nmC_ge y2), if_pos (q4.mpr (by omega)), clf (by rw [y4]; decide)]
        exact ⟨5, I', J', r', rfl, Or.inl ⟨by decide, s, b2, ⟨K, rk, rfl, y4, y5⟩, zk _⟩⟩
theorem keys_sim {n : Nat} {T : Nat → Int32} (h3 : n ≤ 300) (hb : ∀ j, j < n → 0 ≤ (T j).toInt) {a0 : Int32} {A : Nat} (hA : a0.toInt = (A : Int)) (hA2 : A ≤ 100000) {p : Nat} {I : Nat → Int32} {r : Nat → Nat → Int32} (hp : PST n p T I r) {c v : Int32} {s e : Nat} (ht : TKC T n p c s e v) {I' : Nat → Int32} {J' : Nat → Int64} {r' : Nat → Nat → Int32} {P : List Int32} (hR : RST n T c v s e P 0 I' J' r') : ERES J rj rq mj mq n T (CKE a0 (ES I r) (upd (r' 384) (a0 + 4).toNatClampNeg 0) (I' 398) (I' 396) p) (ZKE a0 (upd (r' 384) (a0 + 4).toNatClampNeg 0)) (g_X4_readKeys I J r rj rq) (g_X12_keys a0 I' J' r' mj mq) (tmM (I' 391).toInt (I' 393).toInt) := by
  rw [g_X4_readKeys_e, g_X12_keys_e]
  try simp only [↓ap1_n]
  have k0 : (0 : Int32).toInt = 0 := by decide
  exact keys_L h3 hb hA hA2 _ _ 0 0 I r I' J' _ P p c v s e (by decide) (by decide) (by rw [k0]; omega) (Nat.lt_succ_self _) hp ht (RST_fr hR (fun _ _ => rfl) (fun t h => va_up_ne _ _ h)) (by rw [va_up_self, upd_s]; decide) [] rfl (va_up_self _ _ _) rfl rfl (by show 0 + p ≤ p; omega) rfl (fun y hy => by cases hy)
end PR11
/-! ===== pure: what CLAUSES hold, on both sides (behind pr11, ahead of pr12) ===== -/
section PC
/-- sorts and codes of CLAUSES, the latest first -/
abbrev CLs : Type := List (Int32 × List Int32)
def tot : CLs → Nat
  | [] => 0
  | x :: M => tot M + x.2.length
/-- the class's TEXT -/
def CTX (r : Nat → Nat → Int32) : CLs → Prop
  | [] => (r 258 0).toInt = 0
  | x :: M => CTX r M ∧ r 257 M.length = x.1 ∧ (r 258 (M.length + 1)).toInt = ((tot M + x.2.length : Nat) : Int) ∧ ∀ i y, x.2[i]? = some y → r 259 (tot M + i) = y
/-- the reference's, of W on -/
def RTX (W : Nat) (f : Nat → Int32) : CLs → Nat → Prop
  | [], w => w = 0
  | x :: M, w => f (W + 1 + 12 * M.length) = srC x.1 ∧ ((x.1.toInt < 4 ∧ eTr x.2 [] = some [true] ∧ ∃ w0 : Nat, RTX W f M w0 ∧ w = w0 + x.2.length ∧ (f (W + 1 + 12 * M.length + 2)).toInt = (w0 : Int) ∧ (f (W + 1 + 12 * M.length + 3)).toInt = (w : Int) ∧ ∀ i y, x.2[i]? = some y → f (W + 250 + 2 * (w0 + i)) = (en y).1 ∧ f (W + 250 + 2 * (w0 + i) + 1) = (en y).2) ∨ ((x.1.toInt = 4 ∨ x.1.toInt = 5) ∧ (∀ y, y ∈ x.2 → KYN y) ∧ RTX W f M w ∧ x.2.length ≤ 4 ∧ (f (W + 1 + 12 * M.length + 4)).toInt = (x.2.length : Int) ∧ ∀ i y, x.2[i]? = some y → f (W + 1 + 12 * M.length + 5 + i) = kr y) ∨ (6 ≤ x.1.toInt ∧ RTX W f M w ∧ ∃ y, x.2 = [y] ∧ f (W + 1 + 12 * M.length + 1) = y))
theorem upN2 {x : Int32} {p : Nat} (h : x.toInt = (p : Int)) (hp : p ≤ 100000) : (x + 1).toInt = ((p + 1 : Nat) : Int) := by
  have := i_add h (show (1 : Int32).toInt = 1 by decide) (by omega) (by omega)
  omega
theorem get_lt {α : Type} {E : List α} {i : Nat} {y : α} (h : E[i]? = some y) : i < E.length := (List.getElem?_eq_some_iff.mp h).1
theorem CTX_cg {r r' : Nat → Nat → Int32} : ∀ M : CLs, CTX r M → (∀ j, j < M.length → r' 257 j = r 257 j) → (∀ j, j ≤ M.length → r' 258 j = r 258 j) → (∀ j, j < tot M → r' 259 j = r 259 j) → CTX r' M
  | [], h, _, h2, _ => by
    show (r' 258 0).toInt = 0
    rw [h2 0 (Nat.le_refl _)]; exact h
  | x :: M, h, h1, h2, h3 => by
    obtain ⟨a, b, c, d⟩ := h
    have hl : (x :: M).length = M.length + 1 := rfl
    have ht : tot (x :: M) = tot M + x.2.length := rfl
    refine ⟨CTX_cg M a (fun j hj => h1 j (by omega)) (fun j hj => h2 j (by omega)) (fun j hj => h3 j (by omega)), ?_, ?_, fun i y hy => ?_⟩
    · rw [h1 _ (by omega)]; exact b
    · rw [h2 _ (by omega)]; exact c
    · have := get_lt hy
      rw [h3 _ (by omega)]; exact d i y hy
theorem RTX_cg {W : Nat} {f g : Nat → Int32} : ∀ (M : CLs) (w : Nat), RTX W f M w → M.length ≤ 20 → (∀ j, W + 1 ≤ j → j < W + 1 + 12 * M.length → g j = f j) → (∀ j, W + 250 ≤ j → j < W + 250 + 2 * w → g j = f j) → RTX W g M w
  | [], w, h, _, _, _ => h
  | x :: M, w, h, hk, h1, h2 => by
    obtain ⟨a, b⟩ := h
    have hl : (x :: M).length = M.length + 1 := rfl
    have q : ∀ d, d < 12 → g (W + 1 + 12 * M.length + d) = f (W + 1 + 12 * M.length + d) := fun d hd => h1 _ (by omega) (by omega)
    refine ⟨by rw [← Nat.add_zero (W + 1 + 12 * M.length), q 0 (by decide), Nat.add_zero]; exact a, ?_⟩
    rcases b with ⟨b0, bt, w0, b1, b2, b3, b4, b5⟩ | ⟨b0, bk, b1, b2, b3, b4⟩ | ⟨b0, b1, y, b2, b3⟩
    · refine Or.inl ⟨b0, bt, w0, RTX_cg M w0 b1 (by omega) (fun j h3 h4 => h1 j h3 (by omega)) (fun j h3 h4 => h2 j h3 (by omega)), b2, by rw [q 2 (by decide)]; exact b3, by rw [q 3 (by decide)]; exact b4, fun i y hy => ?_⟩
      have hi := get_lt hy
      obtain ⟨c1, c2⟩ := b5 i y hy
      exact ⟨by rw [h2 _ (by omega) (by omega)]; exact c1, by rw [h2 _ (by omega) (by omega)]; exact c2⟩
    · refine Or.inr (Or.inl ⟨b0, bk, RTX_cg M w b1 (by omega) (fun j h3 h4 => h1 j h3 (by omega)) h2, b2, by rw [q 4 (by decide)]; exact b3, fun i y hy => ?_⟩)
      have hi := get_lt hy
      rw [show W + 1 + 12 * M.length + 5 + i = W + 1 + 12 * M.length + (5 + i) by omega, q (5 + i) (by omega), ← show W + 1 + 12 * M.length + 5 + i = W + 1 + 12 * M.length + (5 + i) by omega]
      exact b4 i y hy
    · exact Or.inr (Or.inr ⟨b0, RTX_cg M w b1 (by omega) (fun j h3 h4 => h1 j h3 (by omega)) h2, y, b2, by rw [q 1 (by decide)]; exact b3⟩)
/-- what the class emits, where its bound isn't met -/
theorem emL_v : ∀ (E : List Int32) (S : Int32 × (Nat → Int32)) (q : Nat), S.1.toInt = (q : Int) → q + E.length ≤ 300 → (emL S E).1.toInt = ((q + E.length : Nat) : Int) ∧ (∀ j, j < q → (emL S E).2 j = S.2 j) ∧ ∀ i y, E[i]? = some y → (emL S E).2 (q + i) = y
  | [], S, q, h, _ => ⟨h, fun _ _ => rfl, fun i y hy => by simp at hy⟩
  | a :: E, S, q, h, hl => by
    have hl1 : (a :: E).length = E.length + 1 := rfl
    have k : (300 : Int32).toInt = 300 := by decide
    have e1 : em1 S a = (S.1 + 1, upd S.2 S.1.toNatClampNeg a) := if_neg (fun y => by have := Int32.le_iff_toInt_le.mp y; omega)
    have u : (S.1 + 1).toInt = ((q + 1 : Nat) : Int) := upN h (by omega)
    obtain ⟨i1, i2, i3⟩ := emL_v E (S.1 + 1, upd S.2 S.1.toNatClampNeg a) (q + 1) u (by omega)
    have e2 : emL S (a :: E) = emL (S.1 + 1, upd S.2 S.1.toNatClampNeg a) E := by rw [← e1]; rfl
    rw [e2]
    refine ⟨by rw [i1]; omega, fun j hj => ?_, fun i y hy => ?_⟩
    · rw [i2 j (by omega), at_n h]
      exact upd_n _ _ (by omega)
    · cases i with
      | zero =>
        have hy2 : a = y := by simpa using hy
        rw [Nat.add_zero, i2 q (by omega), at_n h]
        show upd S.2 q a q = y
        rw [upd_s, hy2]
      | succ i =>
        have hy2 : E[i]? = some y := by simpa using hy
        rw [show q + (i + 1) = q + 1 + i by omega]
        exact i3 i y hy2
/-- what the reference emits -/
theorem fmL_v {b : Int32} {W : Nat} (hb : b.toInt = (W : Int)) (hW : W ≤ 20000) : ∀ (Y : List (Int32 × Int32)) (F : Int32 × (Nat → Int32)) (w : Nat), F.1.toInt = (w : Int) → w + Y.length ≤ 1000 → (fmL b F Y).1.toInt = ((w + Y.length : Nat) : Int) ∧ (∀ j, j < W + 250 + 2 * w → (fmL b F Y).2 j = F.2 j) ∧ ∀ i y, Y[i]? = some y → (fmL b F Y).2 (W + 250 + 2 * (w + i)) = y.1 ∧ (fmL b F Y).2 (W + 250 + 2 * (w + i) + 1) = y.2
  | [], F, w, h, _ => ⟨h, fun _ _ => rfl, fun i y hy => by simp at hy⟩
  | a :: Y, F, w, h, hl => by
    have hl1 : (a :: Y).length = Y.length + 1 := rfl
    have k250 : (250 : Int32).toInt = 250 := by decide
    have x1 : (b + 250).toInt = ((W + 250 : Nat) : Int) := by
      have := i_add hb k250 (by omega) (by omega)
      omega
    have x2 : ((2 : Int32) * F.1).toInt = ((2 * w : Nat) : Int) := by
      have := i_mul (show (2 : Int32).toInt = 2 by decide) h (by omega) (by omega)
      omega
    have x3 : (b + 250 + 2 * F.1).toInt = ((W + 250 + 2 * w : Nat) : Int) := by
      have := i_add x1 x2 (by omega) (by omega)
      omega
    have x4 : (b + 250 + 2 * F.1 + 1).toInt = ((W + 250 + 2 * w + 1 : Nat) : Int) := upN2 x3 (by omega)
    have u : (F.1 + 1).toInt = ((w + 1 : Nat) : Int) := upN h (by omega)
    obtain ⟨i1, i2, i3⟩ := fmL_v hb hW Y (F.1 + 1, upd (upd F.2 (b + 250 + 2 * F.1).toNatClampNeg a.1) (b + 250 + 2 * F.1 + 1).toNatClampNeg a.2) (w + 1) u (by omega)
    have e2 : fmL b F (a :: Y) = fmL b (F.1 + 1, upd (upd F.2 (b + 250 + 2 * F.1).toNatClampNeg a.1) (b + 250 + 2 * F.1 + 1).toNatClampNeg a.2) Y := rfl
    rw [e2]
    rw [at_n x3, at_n x4] at i1 i2 i3 ⊢
    refine ⟨by rw [i1]; omega, fun j hj => ?_, fun i y hy => ?_⟩
    · rw [i2 j (by omega)]
      show upd (upd F.2 (W + 250 + 2 * w) a.1) (W + 250 + 2 * w + 1) a.2 j = F.2 j
      rw [upd_n _ _ (by omega), upd_n _ _ (by omega)]
    · cases i with
      | zero =>
        have hy2 : a = y := by simpa using hy
        rw [Nat.add_zero, i2 _ (by omega), i2 _ (by omega), ← hy2]
        refine ⟨?_, ?_⟩
        · show upd (upd F.2 (W + 250 + 2 * w) a.1) (W + 250 + 2 * w + 1) a.2 (W + 250 + 2 * w) = a.1
          rw [upd_n _ _ (by omega), upd_s]
        · show upd (upd F.2 (W + 250 + 2 * w) a.1) (W + 250 + 2 * w + 1) a.2 (W + 250 + 2 * w + 1) = a.2
          rw [upd_s]
      | succ i =>
        have hy2 : Y[i]? = some y := by simpa using hy
        rw [show w + (i + 1) = w + 1 + i by omega]
        exact i3 i y hy2
/-- what KEYS come to in the reference -/
theorem kmL_v {a0 : Int32} {A : Nat} (hA : a0.toInt = (A : Int)) (hA2 : A ≤ 100000) : ∀ (X : List Int32) (f : Nat → Int32) (k : Nat), (f (A + 4)).toInt = (k : Int) → k + X.length ≤ 4 → (kmL a0 f X (A + 4)).toInt = ((k + X.length : Nat) : Int) ∧ (∀ j, j < A + 4 ∨ (A + 4 < j ∧ j < A + 5 + k) ∨ A + 9 ≤ j → kmL a0 f X j = f j) ∧ ∀ i y, X[i]? = some y → kmL a0 f X (A + 5 + k + i) = kr y
  | [], f, k, h, _ => ⟨h, fun _ _ => rfl, fun i y hy => by simp at hy⟩
  | a :: X, f, k, h, hl => by
    have hl1 : (a :: X).length = X.length + 1 := rfl
    have e4 : (a0 + 4).toInt = ((A + 4 : Nat) : Int) := by
      have := i_add hA (show (4 : Int32).toInt = 4 by decide) (by omega) (by omega)
      omega
    have e5 : (a0 + 5).toInt = ((A + 5 : Nat) : Int) := by
      have := i_add hA (show (5 : Int32).toInt = 5 by decide) (by omega) (by omega)
      omega
    have e6 : (a0 + 5 + f (A + 4)).toInt = ((A + 5 + k : Nat) : Int) := by
      have := i_add e5 h (by omega) (by omega)
      omega
    have ek : km1 a0 f a = upd (upd f (A + 5 + k) (kr a)) (A + 4) (f (A + 4) + 1) := by
      unfold km1
      rw [at_n e4, at_n e6, upd_n f (kr a) (show A + 4 ≠ A + 5 + k by omega)]
    have h1 : (km1 a0 f a (A + 4)).toInt = ((k + 1 : Nat) : Int) := by rw [ek, upd_s]; exact upN h (by omega)
    obtain ⟨i1, i2, i3⟩ := kmL_v hA hA2 X (km1 a0 f a) (k + 1) h1 (by omega)
    have e2 : kmL a0 f (a :: X) = kmL a0 (km1 a0 f a) X := rfl
    rw [e2]
    refine ⟨by rw [i1]; omega, fun j hj => ?_, fun i y hy => ?_⟩
    · rw [i2 j (by omega), ek, upd_n _ _ (by omega), upd_n _ _ (by omega)]
    · cases i with
      | zero =>
        have hy2 : a = y := by simpa using hy
        rw [Nat.add_zero, i2 _ (by omega), ek, upd_n _ _ (by omega), upd_s, hy2]
      | succ i =>
        have hy2 : X[i]? = some y := by simpa using hy
        rw [show A + 5 + k + (i + 1) = A + 5 + (k + 1) + i by omega]
        exact i3 i y hy2
end PC
/-! ===== pure: a CLAUSE more (behind pc) ===== -/
section PD
/-- both sides hold M's CLAUSES and this one -/
def DCL (W : Nat) (c : Int32) (M : CLs) (f0 : Nat → Int32) : ((Nat → Int32) → (Nat → Nat → Int32) → (Nat → Int32) → (Nat → Nat → Int32) → Nat → Prop) := fun If rf I1 r1 p => ∃ (E : List Int32) (w : Nat), CTX rf ((c, E) :: M) ∧ RTX W (r1 384) ((c, E) :: M) w ∧ (I1 398).toInt = (w : Int) ∧ (If 132).toInt = (tot ((c, E) :: M) : Int) ∧ w ≤ tot ((c, E) :: M) ∧ tot ((c, E) :: M) ≤ p ∧ ∀ j, j ≤ W → r1 384 j = f0 j
variable {W k w p0 p2 p3 i y : Nat} {c bb : Int32} {M : CLs} {r rf r1 : Nat → Nat → Int32} {f f0 g : Nat → Int32} {S0 F0 : Int32 × (Nat → Int32)} {If I1 I2 : Nat → Int32}
/-- the class's side, of any CLAUSE -/
theorem ctx_up {E : List Int32} (hM : M.length = k) (hC : CTX r M) (hS : S0.1.toInt = (tot M : Int)) (hS2 : S0.2 = r 259) (a1 : ES If rf = emL S0 E) (hl : tot M + E.length ≤ 300) (h257 : rf 257 = upd (r 257) k c) (h258 : rf 258 = r 258) : CTX (va_up rf 258 (upd (rf 258) (k + 1) (If 132))) ((c, E) :: M) ∧ (If 132).toInt = (tot ((c, E) :: M) : Int) := by
  obtain ⟨b1, b2, b3⟩ := emL_v E S0 (tot M) hS hl
  rw [← a1] at b1 b2 b3
  have e1 : (If 132).toInt = ((tot M + E.length : Nat) : Int) := b1
  have n257 : va_up rf 258 (upd (rf 258) (k + 1) (If 132)) 257 = upd (r 257) k c := by rw [va_up_ne _ _ (show (257 : Nat) ≠ 258 by decide)]; exact h257
  have n258 : va_up rf 258 (upd (rf 258) (k + 1) (If 132)) 258 = upd (r 258) (k + 1) (If 132) := by rw [va_up_self, h258]
  have n259 : va_up rf 258 (upd (rf 258) (k + 1) (If 132)) 259 = rf 259 := va_up_ne _ _ (by decide)
  refine ⟨⟨CTX_cg M hC (fun j hj => ?_) (fun j hj => ?_) (fun j hj => ?_), ?_, ?_, fun i y hy => ?_⟩, e1⟩
  · rw [n257]; exact upd_n _ _ (by omega)
  · rw [n258]; exact upd_n _ _ (by omega)
  · rw [n259, ← hS2]; exact b2 j hj
  · rw [n257, hM]; exact upd_s _ _ _
  · rw [n258, hM, upd_s]; exact e1
  · rw [n259]; exact b3 i y hy
theorem dcl_ei (h : CEI S0 F0 bb p0 If rf I1 r1 p2) (hi : i = k + 1) (hy : y = W + 1 + 12 * k + 3) (hf0 : ∀ j, j ≤ W → f j = f0 j) (hM : M.length = k) (hk : k ≤ 19) (hW : W ≤ 20000) (hb : bb.toInt = (W : Int)) (hC : CTX r M) (hR : RTX W f M w) (hw : w ≤ tot M) (hp0 : tot M ≤ p0) (hS : S0.1.toInt = (tot M : Int)) (hS2 : S0.2 = r 259) (hF : F0.1.toInt = (w : Int)) (hF2 : F0.2 = upd (upd f (W + 1 + 12 * k) (srC c)) (W + 1 + 12 * k + 2) F0.1) (h257 : rf 257 = upd (r 257) k c) (h258 : rf 258 = r 258) (hp2 : p2 ≤ 300) (hp3 : p2 ≤ p3) (c4 : c.toInt < 4) (hI2 : I2 398 = I1 398) : DCL W c M f0 If (va_up rf 258 (upd (rf 258) i (If 132))) I2 (va_up r1 384 (upd (r1 384) y (I1 398))) p3 := by
  subst hi hy
  obtain ⟨E, a1, a2, a3, a4, a5⟩ := h
  have ht : tot ((c, E) :: M) = tot M + E.length := rfl
  obtain ⟨x1, x2⟩ := ctx_up (c := c) hM hC hS hS2 a1 (by omega) h257 h258
  obtain ⟨d1, d2, d3⟩ := fmL_v hb hW (E.map en) F0 w hF (by rw [List.length_map]; omega)
  rw [← a2] at d1 d2 d3
  rw [List.length_map] at d1
  have e1 : (I1 398).toInt = ((w + E.length : Nat) : Int) := d1
  have row : ∀ j, j < W + 250 + 2 * w → j ≠ W + 1 + 12 * k → j ≠ W + 1 + 12 * k + 2 → j ≠ W + 1 + 12 * k + 3 → upd (r1 384) (W + 1 + 12 * k + 3) (I1 398) j = f j := fun j h1 h2 h3 h4 => by
    have z : r1 384 j = F0.2 j := d2 j h1
    rw [upd_n _ _ h4, z, hF2, upd_n _ _ h3, upd_n _ _ h2]
  refine ⟨E, w + E.length, x1, ?_, by rw [hI2]; exact e1, x2, by rw [ht]; omega, by rw [ht]; omega, fun j hj => by rw [va_up_self, row j (by omega) (by omega) (by omega) (by omega)]; exact hf0 j hj⟩
  rw [va_up_self]
  refine ⟨?_, Or.inl ⟨c4, a5, w, RTX_cg M w hR (by omega) (fun j h1 h2 => row j (by omega) (by omega) (by omega) (by omega)) (fun j h1 h2 => row j h2 (by omega) (by omega) (by omega)), rfl, ?_, ?_, fun i y hy => ?_⟩⟩
  · have z : r1 384 (W + 1 + 12 * M.length) = F0.2 (W + 1 + 12 * M.length) := d2 _ (by omega)
    rw [upd_n _ _ (by omega), z, hF2, upd_n _ _ (by omega), hM, upd_s]
  · have z : r1 384 (W + 1 + 12 * M.length + 2) = F0.2 (W + 1 + 12 * M.length + 2) := d2 _ (by omega)
    rw [upd_n _ _ (by omega), z, hF2, hM, upd_s]; exact hF
  · rw [hM, upd_s]; exact e1
  · have hi := get_lt hy
    have hy2 : (E.map en)[i]? = some (en y) := by
      rw [List.getElem?_map, show E[i]? = some y from hy]; rfl
    obtain ⟨z1, z2⟩ := d3 i (en y) hy2
    exact ⟨by rw [upd_n _ _ (by omega)]; exact z1, by rw [upd_n _ _ (by omega)]; exact z2⟩
theorem dcl_ke {a0 : Int32} {w0 : Int32} (h : CKE a0 S0 g w0 bb p0 If rf I1 r1 p2) (hi : i = k + 1) (hg : g = upd (upd f (W + 1 + 12 * k) (srC c)) (W + 1 + 12 * k + 4) 0) (hf0 : ∀ j, j ≤ W → f j = f0 j) (hM : M.length = k) (hk : k ≤ 19) (hW : W ≤ 20000) (ha : a0.toInt = ((W + 1 + 12 * k : Nat) : Int)) (hC : CTX r M) (hR : RTX W f M w) (hw : w ≤ tot M) (hp0 : tot M ≤ p0) (hS : S0.1.toInt = (tot M : Int)) (hS2 : S0.2 = r 259) (hw0 : w0.toInt = (w : Int)) (h257 : rf 257 = upd (r 257) k c) (h258 : rf 258 = r 258) (hp2 : p2 ≤ 300) (hp3 : p2 ≤ p3) (c4 : c.toInt = 4 ∨ c.toInt = 5) (hI2 : I2 398 = I1 398) : DCL W c M f0 If (va_up rf 258 (upd (rf 258) i (If 132))) I2 r1 p3 := by
  subst hi hg
  obtain ⟨E, a1, a2, a3, a4, a5, hE, aK⟩ := h
  have ht : tot ((c, E) :: M) = tot M + E.length := rfl
  have k0 : (0 : Int32).toInt = ((0 : Nat) : Int) := by decide
  obtain ⟨x1, x2⟩ := ctx_up (c := c) hM hC hS hS2 a1 (by omega) h257 h258
  obtain ⟨d1, d2, d3⟩ := kmL_v ha (by omega) E (upd (upd f (W + 1 + 12 * k) (srC c)) (W + 1 + 12 * k + 4) 0) 0 (by rw [upd_s]; exact k0) (by omega)
  rw [← a2] at d1 d2 d3
  have row : ∀ j, (j < W + 1 + 12 * k ∨ W + 1 + 12 * k + 9 ≤ j) → r1 384 j = f j := fun j h1 => by
    rw [d2 j (by omega), upd_n _ _ (by omega), upd_n _ _ (by omega)]
  refine ⟨E, w, x1, ?_, by rw [hI2, a3]; exact hw0, x2, by rw [ht]; omega, by rw [ht]; omega, fun j hj => (row j (by omega)).trans (hf0 j hj)⟩
  refine ⟨?_, Or.inr (Or.inl ⟨c4, aK, RTX_cg M w hR (by omega) (fun j h1 h2 => row j (by omega)) (fun j h1 h2 => row j (by omega)), hE, ?_, fun i y hy => ?_⟩)⟩
  · rw [hM, d2 _ (by omega), upd_n _ _ (by omega), upd_s]
  · rw [hM, d1]
    show ((0 + E.length : Nat) : Int) = (E.length : Int)
    omega
  · have z := d3 i y hy
    rw [hM]
    exact z
theorem dcl_nu {w0 : Int32} {x : Nat} (h : CNU S0 g x w0 bb p0 If rf I1 r1 p2) (hi : i = k + 1) (hg : g = upd f (W + 1 + 12 * k) (srC c)) (hx : x = W + 1 + 12 * k + 1) (hf0 : ∀ j, j ≤ W → f j = f0 j) (hM : M.length = k) (hk : k ≤ 19) (hC : CTX r M) (hR : RTX W f M w) (hw : w ≤ tot M) (hp0 : tot M ≤ p0) (hS : S0.1.toInt = (tot M : Int)) (hS2 : S0.2 = r 259) (hw0 : w0.toInt = (w : Int)) (h257 : rf 257 = upd (r 257) k c) (h258 : rf 258 = r 258) (hp2 : p2 ≤ 300) (hp3 : p2 ≤ p3) (c6 : 6 ≤ c.toInt) (hI2 : I2 398 = I1 398) : DCL W c M f0 If (va_up rf 258 (upd (rf 258) i (If 132))) I2 r1 p3 := by
  subst hi hg hx
  obtain ⟨y, a1, a2, a3, a4, a5⟩ := h
  have ht : tot ((c, [y]) :: M) = tot M + 1 := rfl
  obtain ⟨x1, x2⟩ := ctx_up (c := c) (E := [y]) hM hC hS hS2 a1 (by show tot M + 1 ≤ 300; omega) h257 h258
  have row : ∀ j, j ≠ W + 1 + 12 * k → j ≠ W + 1 + 12 * k + 1 → r1 384 j = f j := fun j h1 h2 => by rw [a2, upd_n _ _ h2, upd_n _ _ h1]
  refine ⟨[y], w, x1, ?_, by rw [hI2, a3]; exact hw0, x2, by rw [ht]; omega, by rw [ht]; omega, fun j hj => (row j (by omega) (by omega)).trans (hf0 j hj)⟩
  refine ⟨?_, Or.inr (Or.inr ⟨c6, RTX_cg M w hR (by omega) (fun j h1 h2 => row j (by omega) (by omega)) (fun j h1 h2 => row j (by omega) (by omega)), y, rfl, ?_⟩)⟩
  · rw [hM, a2, upd_n _ _ (by omega), upd_s]
  · rw [hM, a2, upd_s]
/-! behind a fault -/
theorem low_ei (h : LOWF F0 bb I1 r1) (hy : y = W + 1 + 12 * k + 3) (hf0 : ∀ j, j ≤ W → f j = f0 j) (hW : W ≤ 20000) (hb : bb.toInt = (W : Int)) (hw : w ≤ 300) (hF : F0.1.toInt = (w : Int)) (hF2 : F0.2 = upd (upd f (W + 1 + 12 * k) (srC c)) (W + 1 + 12 * k + 2) F0.1) : ∀ j, j ≤ W → va_up r1 384 (upd (r1 384) y (I1 398)) 384 j = f0 j := by
  obtain ⟨L, e, hl⟩ := h
  obtain ⟨d1, d2, d3⟩ := fmL_v hb hW L F0 w hF (by omega)
  rw [← e] at d2
  intro j hj
  have z : r1 384 j = F0.2 j := d2 j (by omega)
  rw [va_up_self, upd_n _ _ (by omega), z, hF2, upd_n _ _ (by omega), upd_n _ _ (by omega)]
  exact hf0 j hj
theorem low_ke {a0 : Int32} (h : ZKE a0 g I1 r1) (hg : g = upd (upd f (W + 1 + 12 * k) (srC c)) (W + 1 + 12 * k + 4) 0) (hf0 : ∀ j, j ≤ W → f j = f0 j) (hk : k ≤ 19) (hW : W ≤ 20000) (ha : a0.toInt = ((W + 1 + 12 * k : Nat) : Int)) : ∀ j, j ≤ W → r1 384 j = f0 j := by
  subst hg
  obtain ⟨X, e, hl⟩ := h
  have k0 : (0 : Int32).toInt = ((0 : Nat) : Int) := by decide
  obtain ⟨d1, d2, d3⟩ := kmL_v ha (by omega) X (upd (upd f (W + 1 + 12 * k) (srC c)) (W + 1 + 12 * k + 4) 0) 0 (by rw [upd_s]; exact k0) (by omega)
  intro j hj
  rw [e, d2 j (by omega), upd_n _ _ (by omega), upd_n _ _ (by omega)]
  exact hf0 j hj
theorem low_nu {x : Nat} (h : ZNU g x I1 r1) (hg : g = upd f (W + 1 + 12 * k) (srC c)) (hx : x = W + 1 + 12 * k + 1) (hf0 : ∀ j, j ≤ W → f j = f0 j) : ∀ j, j ≤ W → r1 384 j = f0 j := by
  have h' : ∀ j, j ≠ x → r1 384 j = g j := h
  intro j hj
  rw [h' j (by omega), hg, upd_n _ _ (by omega)]
  exact hf0 j hj
end PD
/-! ===== pure: a CLAUSE, both sides ===== -/
section PR12
variable {J : Nat → Int64} {rj : Nat → Nat → Int64} {rq : Nat → Nat → Option Nat} {mj : Nat → Nat → Int64} {mq : Nat → Nat → Option Nat}
/-! which sorts came: the reference's bits, the class's row -/
theorem b1_0 : ∀ i, i < 32 → b3 1 i = decide (i = 0) := by unfold b3; decide +kernel
theorem tb_1 {s : Nat} (hs : s < 32) (w : Int32) : (w >>> (nI s &&& 31)) &&& 1 = 1 ↔ b3 w s = true := by
  constructor
  · intro h
    have h0 : b3 ((w >>> (nI s &&& 31)) &&& 1) 0 = b3 1 0 := by rw [h]
    rw [b_and, b_sshr s hs w (show 0 < 32 by decide), if_pos (show s + 0 < 32 by omega), b1_0 0 (by decide), Nat.add_zero] at h0
    simpa using h0
  · intro h
    apply b_ext
    intro i hi
    rw [b_and, b1_0 i hi]
    by_cases q : i = 0
    · subst q
      have e : b3 (w >>> (nI s &&& 31)) 0 = true := by
        rw [b_sshr s hs w hi, if_pos (show s + 0 < 32 by omega), Nat.add_zero]
        exact h
      rw [e, Bool.true_and]
    · rw [decide_eq_false q, Bool.and_false]
theorem b1_s : ∀ s, s < 32 → ∀ i, i < 32 → b3 ((1 : Int32) <<< (nI s &&& 31)) i = decide (i = s) := by unfold b3; decide +kernel
theorem sr_v {c : Int32} (h0 : 0 ≤ c.toInt) (h8 : c.toInt ≤ 8) : srC c = nI (c.toInt.toNat + 1) ∧ (srC c).toInt = c.toInt + 1 := by
  have d : c.toInt = 0 ∨ c.toInt = 1 ∨ c.toInt = 2 ∨ c.toInt = 3 ∨ c.toInt = 4 ∨ c.toInt = 5 ∨ c.toInt = 6 ∨ c.toInt = 7 ∨ c.toInt = 8 := by omega
  rcases d with d | d | d | d | d | d | d | d | d
  · rw [to_k (c := c) (k := 0) d (by decide)]; decide
  · rw [to_k (c := c) (k := 1) d (by decide)]; decide
  · rw [to_k (c := c) (k := 2) d (by decide)]; decide
  · rw [to_k (c := c) (k := 3) d (by decide)]; decide
  · rw [to_k (c := c) (k := 4) d (by decide)]; decide
  · rw [to_k (c := c) (k := 5) d (by decide)]; decide
  · rw [to_k (c := c) (k := 6) d (by decide)]; decide
  · rw [to_k (c := c) (k := 7) d (by decide)]; decide
  · rw [to_k (c := c) (k := 8) d (by decide)]; decide
theorem sr_0 {c : Int32} (h8 : 8 < c.toInt) : srC c = 0 := by
  have k : ∀ x : Int32, x.toInt ≤ 8 → ¬ c = x := fun x y z => by rw [z] at h8; omega
  unfold srC
  rw [if_neg (k 0 (by decide)), if_neg (k 1 (by decide)), if_neg (k 2 (by decide)), if_neg (k 3 (by decide)), if_neg (k 4 (by decide)), if_neg (k 5 (by decide)), if_neg (k 6 (by decide)), if_neg (k 7 (by decide)), if_neg (k 8 (by decide))]
theorem upN' {x : Int32} {p : Nat} (h : x.toInt = (p : Int)) (hp : p ≤ 20000) : (x + 1).toInt = ((p + 1 : Nat) : Int) := by
  have := i_add h (show (1 : Int32).toInt = 1 by decide) (by omega) (by omega)
  omega
def CAME (w : Int32) (row : Nat → Int32) (k : Nat) : Prop := ∀ a : Int32, 4 ≤ a.toInt → a.toInt ≤ 8 → (b3 w (a.toInt.toNat + 1) = true ↔ ∃ j, j < k ∧ row j = a)
theorem cam_0 {row : Nat → Int32} : CAME 0 row 0 := fun a _ _ => by
  rw [b_0]
  exact ⟨fun h => absurd h (by decide), fun ⟨_, h, _⟩ => absurd h (Nat.not_lt_zero _)⟩
theorem cam_up {w c : Int32} {row : Nat → Int32} {k : Nat} (h : CAME w row k) (h0 : 0 ≤ c.toInt) (h8 : c.toInt ≤ 8) : CAME (w ||| 1 <<< (srC c &&& 31)) (upd row k c) (k + 1) := by
  intro a ha1 ha2
  rw [b_or, (sr_v h0 h8).1, b1_s (c.toInt.toNat + 1) (by omega) (a.toInt.toNat + 1) (by omega), Bool.or_eq_true, decide_eq_true_iff, h a ha1 ha2]
  constructor
  · rintro (⟨j, j1, j2⟩ | q)
    · exact ⟨j, by omega, by rw [upd_n _ _ (by omega)]; exact j2⟩
    · exact ⟨k, Nat.lt_succ_self _, by rw [upd_s]; exact Int32.toInt_inj.mp (by omega)⟩
  · rintro ⟨j, j1, j2⟩
    by_cases q : j = k
    · right
      rw [q, upd_s] at j2
      rw [j2]
    · left
      rw [upd_n _ _ q] at j2
      exact ⟨j, by omega, j2⟩
theorem fo_L {a : Int32} {I : Nat → Int32} {ri : Nat → Nat → Int32} {k : Nat} (hk : (I 256).toInt = (k : Int)) (hk2 : k ≤ 20) : ∀ (m : Nat) (x : Int32) (j : Nat), x.toInt = (j : Int) → j ≤ k → k - j < m → (∀ i, i < j → ri 257 i ≠ a) → ∃ y : Int32, g_X8_firstOf_R_L2 a I J ri rj rq m x = (y, I, J, ri, rj, rq) ∧ (y = -1 ↔ ¬ ∃ i, i < k ∧ ri 257 i = a) := by
  intro m
  induction m with
  | zero => intro _ _ _ _ h; exact absurd h (Nat.not_lt_zero _)
  | succ m ih =>
    intro x j hx hj hm hn
    rw [g_X8_firstOf_R_L2_e]
    try simp only [↓ap1_n]
    by_cases q : I 256 ≤ x
    · have q1 := (le_n hk hx).mp q
      rw [if_pos q]
      exact ⟨-1, rfl, fun _ ⟨i, h1, h2⟩ => hn i (by omega) h2, fun _ => rfl⟩
    · have q1 : ¬ k ≤ j := fun y => q ((le_n hk hx).mpr y)
      rw [if_neg q, at_n hx]
      by_cases q2 : ri 257 j = a
      · rw [if_pos q2]
        refine ⟨x, rfl, fun y => ?_, fun y => absurd ⟨j, by omega, q2⟩ y⟩
        rw [y] at hx
        exact absurd hx (by rw [show (-1 : Int32).toInt = -1 by decide]; omega)
      · rw [if_neg q2]
        exact ih (x + Int32.ofInt 1) (j + 1) (up_i hx (by omega)) (by omega) (by omega) (fun i hi => by
          by_cases z : i = j
          · rw [z]; exact q2
          · exact hn i (by omega))
theorem fo_v {a : Int32} {I : Nat → Int32} {ri : Nat → Nat → Int32} {k : Nat} (hk : (I 256).toInt = (k : Int)) (hk2 : k ≤ 20) : ∃ y : Int32, g_X8_firstOf_R a I J ri rj rq = (y, I, J, ri, rj, rq) ∧ (y = -1 ↔ ¬ ∃ i, i < k ∧ ri 257 i = a) := by
  have k0 : (0 : Int32).toInt = 0 := by decide
  rw [g_X8_firstOf_R_e]
  exact fo_L hk hk2 _ 0 0 (by decide) (Nat.zero_le _) (by rw [k0]; omega) (fun i h => absurd h (Nat.not_lt_zero _))
/-- how the reading of a CLAUSE ends -/
def CRES (J : Nat → Int64) (rj : Nat → Nat → Int64) (rq : Nat → Nat → Option Nat) (mj : Nat → Nat → Int64) (mq : Nat → Nat → Option Nat) (n : Nat) (T : Nat → Int32) (k W : Nat) (D : (Nat → Int32) → (Nat → Nat → Int32) → (Nat → Int32) → (Nat → Nat → Int32) → Nat → Prop) (f0 : Nat → Int32) (X : vM) (Y : Int32 × vM) (tm0 : Int) : Prop := ∃ (f : Int32) (I1 : Nat → Int32) (J1 : Nat → Int64) (r1 : Nat → Nat → Int32), Y = (f, I1, J1, r1, mj, mq) ∧ ((f ≠ 0 ∧ ∃ s : Nat, (I1 392).toInt = (s : Int) ∧ FIN J rj rq f s X ∧ ∀ j, j ≤ W → r1 384 j = f0 j) ∨ (f = 0 ∧ ∃ (p2 : Nat) (c2 v2 : Int32) (s2 e2 : Nat) (P2 : List Int32) (If : Nat → Int32) (rf : Nat → Nat → Int32), TKC T n p2 c2 s2 e2 v2 ∧ RST n T c2 v2 s2 e2 P2 0 I1 J1 r1 ∧ X = (If, J, rf, rj, rq) ∧ PST n p2 T If rf ∧ (k ≤ 19 ∧ (If 256).toInt = ((k + 1 : Nat) : Int) ∧ (I1 397).toInt = ((k + 1 : Nat) : Int) ∧ CAME (I1 399) (rf 257) (k + 1) ∧ (I1 396).toInt = (W : Int)) ∧ tmM (I1 391).toInt (I1 393).toInt < tm0 ∧ D If rf I1 r1 p2))
theorem RST_f2 {n : Nat} {T : Nat → Int32} {c v : Int32} {s e : Nat} {P : List Int32} {o : Nat} {I I' : Nat → Int32} {J1 : Nat → Int64} {r r' : Nat → Nat → Int32} (h : RST n T c v s e P o I J1 r) (hI : ∀ f, f ≠ 397 → f ≠ 398 → f ≠ 399 → I' f = I f) (hr : ∀ q, q ≠ 384 → r' q = r q) : RST n T c v s e P o I' J1 r' := by
  obtain ⟨⟨a1, a2⟩, ⟨b1, b2, b3⟩, ⟨c1, c2⟩, d1⟩ := h
  have z : ∀ f, f < 397 ∨ 399 < f → I' f = I f := fun f hf => hI f (by omega) (by omega) (by omega)
  exact ⟨⟨by rw [z 388 (by decide)]; exact a1, by rw [hr 387 (by decide)]; exact a2⟩, ⟨by rw [z 391 (by decide)]; exact b1, by rw [z 392 (by decide)]; exact b2, TKF_fr b3 (z 393 (by decide)) (z 394 (by decide))⟩, ⟨by rw [z 401 (by decide)]; exact c1, by rw [hr 400 (by decide)]; exact c2⟩, by rw [z 402 (by decide)]; exact d1⟩
/-- ; behind what was read -/
theorem FS_2 {I : Nat → Int32} {r : Nat → Nat → Int32} : (FS I r).2 = r 384 := rfl
theorem close {C D : (Nat → Int32) → (Nat → Nat → Int32) → (Nat → Int32) → (Nat → Nat → Int32) → Nat → Prop} {Z : (Nat → Int32) → (Nat → Nat → Int32) → Prop} {f0 : Nat → Int32} {n : Nat} {T : Nat → Int32} (h3 : n ≤ 300) (hb : ∀ j, j < n → 0 ≤ (T j).toInt) {k W : Nat} (hk : k ≤ 19) {X' : vM} {Y' : Int32 × vM} {tm0 : Int} (E : ERES J rj rq mj mq n T C Z X' Y' tm0) {row row8 : Nat → Int32} {w : Int32} (f256 : (X'.1 256).toInt = ((k + 1 : Nat) : Int)) (f257 : X'.2.2.1 257 = row) (f258 : X'.2.2.1 258 = row8) (g397 : (Y'.2.1 397).toInt = (k : Int)) (g399 : Y'.2.1 399 = w) (g396 : (Y'.2.1 396).toInt = (W : Int)) (cm : CAME w row (k + 1)) (R : (Nat → Int32) → (Nat → Nat → Int32) → Nat → Nat → Int32) (hR : ∀ I r q, q ≠ 384 → R I r q = r q) (hD : ∀ (If : Nat → Int32) (rf : Nat → Nat → Int32) (I1 : Nat → Int32) (r1 : Nat → Nat → Int32) (p2 p3 : Nat) (I2 : Nat → Int32), C If rf I1 r1 p2 → (If 256).toInt = ((k + 1 : Nat) : Int) → rf 257 = row → rf 258 = row8 → p2 ≤ 300 → p2 ≤ p3 → I2 398 = I1 398 → D If (va_up rf 258 (upd (rf 258) (If 256).toNatClampNeg (If 132))) I2 (R I1 r1) p3) (hZ : ∀ (I1 : Nat → Int32) (r1 : Nat → Nat → Int32), Z I1 r1 → ∀ j, j ≤ W → R I1 r1 384 j = f0 j) : CRES J rj rq mj mq n T k W D f0 (bnV X' fun (I2 : Nat → Int32) (_ : Nat → Int64) (r2 : Nat → Nat → Int32) (_ : Nat → Nat → Int64) (_ : Nat → Nat → Option Nat) => ((I2, J, va_up r2 258 (upd (r2 258) (I2 256).toNatClampNeg (I2 132)), rj, rq) : vM)) (bnI Y' fun (x : Int32) (I3 : Nat → Int32) (J3 : Nat → Int64) (r3 : Nat → Nat → Int32) (_ : Nat → Nat → Int64) (_ : Nat → Nat → Option Nat) => if x = 0 then (if I3 393 = 59 then bnV (g_X12_nextToken_x (va_up I3 397 (I3 397 + 1)) J3 (R I3 r3) mj mq) fun (I5 : Nat → Int32) (J5 : Nat → Int64) (_ : Nat → Nat → Int32) (_ : Nat → Nat → Int64) (_ : Nat → Nat → Option Nat) => (((0 : Int32), I5, J5, R I3 r3, mj, mq) : Int32 × vM) else ((1 : Int32), I3, J3, R I3 r3, mj, mq)) else (x, I3, J3, R I3 r3, mj, mq)) tm0 := by
  obtain ⟨f, I1, J1, r1, e, h⟩ := E
  subst e
  rcases h with ⟨y, s, y1, ⟨If, rf, x1, x2, x3⟩, z0⟩ | ⟨y, p2, c2, v2, s2, e2, P2, a1, a2, a3, a4⟩
  · subst x1
    rw [bv_n rfl, bn_n rfl, if_neg y]
    exact ⟨f, I1, J1, R I1 r1, rfl, Or.inl ⟨y, s, y1, ⟨If, _, rfl, x2, x3⟩, hZ _ _ z0⟩⟩
  · subst y
    have a2' := a2
    obtain ⟨⟨m1, m2⟩, ⟨m3, m4, m5⟩, ⟨m6, m7⟩, m8⟩ := a2'
    obtain ⟨t0, t18, t33, s19, s20, s21, s22, s23, s24, s25, s26, s27, s28, s29, s30, s31, s32, t2, tv, tw⟩ := m5
    have hle := TKC_le a1
    rcases a3 with ⟨c32, If, rf, x1, x2, x3, x4, x5, x6⟩ | ⟨c32, ⟨If, rf, x1, x2, x3⟩, z0⟩
    · subst x1
      rw [bv_n rfl, bn_n rfl, if_pos (show (0 : Int32) = 0 from rfl), if_pos (s32.mpr c32)]
      obtain ⟨c3, s3, e3, v3, ht3⟩ := TKC_ex T hle.2.2.1
      have hR2 : RST n T c2 v2 s2 e2 P2 0 (va_up I1 397 (I1 397 + 1)) J1 (R I1 r1) := RST_f2 a2 (fun f h1 _ _ => va_up_ne _ _ h1) (hR I1 r1)
      obtain ⟨I5, J5, f1, f2, f3⟩ := RST_n (mj := mj) (mq := mq) h3 hb hR2 hle.2.2.1 ht3
      rw [bv_n f1]
      obtain ⟨n1, n2⟩ := tm_nx h3 hR2 (by rw [c32]; decide) f2 ht3
      have z1 : va_up I1 397 (I1 397 + 1) 391 = I1 391 := va_up_ne _ _ (by decide)
      have z3 : va_up I1 397 (I1 397 + 1) 393 = I1 393 := va_up_ne _ _ (by decide)
      rw [z1, z3] at n1
      refine ⟨0, I5, J5, R I1 r1, rfl, Or.inr ⟨rfl, e2, c3, v3, s3, e3, P2, If, _, ht3, f2, rfl, ⟨x3, ?_, x5, hle.2.2.1, x2⟩, ⟨hk, f256, ?_, ?_, ?_⟩, by omega, hD If rf I1 r1 p2 e2 I5 x6 f256 f257 f258 (by omega) (by omega) ((f3 398 (by decide) (by decide) (by decide) (by decide)).trans (va_up_ne _ _ (by decide)))⟩⟩
      · rw [va_up_ne _ _ (show (192 : Nat) ≠ 258 by decide)]; exact x4
      · rw [f3 397 (by decide) (by decide) (by decide) (by decide), va_up_self]
        exact upN g397 (by omega)
      · rw [f3 399 (by decide) (by decide) (by decide) (by decide), va_up_ne _ _ (show (399 : Nat) ≠ 397 by decide), va_up_ne _ _ (show (257 : Nat) ≠ 258 by decide)]
        rw [show I1 399 = w from g399, show rf 257 = row from f257]
        exact cm
      · rw [f3 396 (by decide) (by decide) (by decide) (by decide), va_up_ne _ _ (show (396 : Nat) ≠ 397 by decide)]
        exact g396
    · subst x1
      rw [bv_n rfl, bn_n rfl, if_pos (show (0 : Int32) = 0 from rfl), if_neg (fun z => c32 (s32.mp z))]
      exact ⟨1, I1, J1, R I1 r1, rfl, Or.inl ⟨by decide, s2, m4, ⟨If, _, rfl, x2, x3⟩, hZ _ _ z0⟩⟩
theorem clause_sim {n : Nat} {T : Nat → Int32} (h3 : n ≤ 300) (hb : ∀ j, j < n → 0 ≤ (T j).toInt) {k W p : Nat} {I : Nat → Int32} {r : Nat → Nat → Int32} {c v : Int32} {s e : Nat} (hp : PST n e T I r) (g1 : I 194 = c) (g2 : (I 195).toInt = (s : Int)) (f256 : (I 256).toInt = (k : Int)) (hk : k ≤ 20) (ht : TKC T n p c s e v) {I' : Nat → Int32} {J' : Nat → Int64} {r' : Nat → Nat → Int32} {P : List Int32} (hR : RST n T c v s e P 0 I' J' r') (g397 : (I' 397).toInt = (k : Int)) (cm : CAME (I' 399) (r 257) k) (g396 : (I' 396).toInt = (W : Int)) (hW : W ≤ 20000) {M : CLs} {w : Nat} {f0 : Nat → Int32} (hM : M.length = k) (hC : CTX r M) (hRT : RTX W (r' 384) M w) (hw : w ≤ tot M) (hp0 : tot M ≤ p) (h132 : (I 132).toInt = (tot M : Int)) (h398 : (I' 398).toInt = (w : Int)) (hf0 : ∀ j, j ≤ W → r' 384 j = f0 j) : CRES J rj rq mj mq n T k W (DCL W c M f0) f0 (g_X4_readClause I J r rj rq) (g_X12_clause I' J' r' mj mq) (tmM (I' 391).toInt (I' 393).toInt) := by
  have hR' := hR
  obtain ⟨⟨a1, a2⟩, ⟨b1, b2, b3⟩, _, _⟩ := hR'
  have h0 := b3.1.1
  have k4 : (4 : Int32).toInt = 4 := by decide
  have k5 : (5 : Int32).toInt = 5 := by decide
  have k6 : (6 : Int32).toInt = 6 := by decide
  have k8 : (8 : Int32).toInt = 8 := by decide
  have k20 : (20 : Int32).toInt = ((20 : Nat) : Int) := by decide
  have k0 : (0 : Int32).toInt = 0 := by decide
  have hle := TKC_le ht
  have rf : ∀ a : Int32, a ≠ 0 → CRES J rj rq mj mq n T k W (DCL W c M f0) f0 (bnV (g_X4_refuse a I J r rj rq) fun (I1 : Nat → Int32) (_ : Nat → Int64) (_ : Nat → Nat → Int32) (_ : Nat → Nat → Int64) (_ : Nat → Nat → Option Nat) => ((I1, J, r, rj, rq) : vM)) (a, I', J', r', mj, mq) (tmM (I' 391).toInt (I' 393).toInt) := fun a ha => by
    rw [bv_n (refuse_c hp.2.2.2.2)]
    exact ⟨a, I', J', r', rfl, Or.inl ⟨ha, s, b2, ⟨_, r, rfl, refuse_1.1, by rw [refuse_1.2]; exact g2⟩, hf0⟩⟩
  rw [g_X4_readClause_e, g_X12_clause_e]
  try simp only [↓ap1_n]
  rw [bn_n (sort_m b3), g1]
  by_cases c8 : c.toInt ≤ 8
  · obtain ⟨sv1, sv2⟩ := sr_v h0 c8
    rw [if_pos (show c ≤ 8 from Int32.le_iff_toInt_le.mpr (by omega)), if_neg (show ¬ srC c = 0 from fun y => by rw [y, k0] at sv2; omega)]
    have lt20 : I 256 < 20 ↔ k < 20 := by rw [Int32.lt_iff_toInt_lt, f256, k20]; omega
    have eq20 : I' 397 = 20 ↔ k = 20 := eq_n g397 k20
    -- what is read next, both sides
    have hp1 : PST n e T (va_up I 256 (I 256 + 1)) (va_up r 257 (upd (r 257) (I 256).toNatClampNeg c)) := by
      obtain ⟨z1, z2, z3, z4, z5⟩ := hp
      exact ⟨by rw [va_up_ne _ _ (show (193 : Nat) ≠ 256 by decide)]; exact z1, by rw [va_up_ne _ _ (show (192 : Nat) ≠ 257 by decide)]; exact z2, by rw [va_up_ne _ _ (show (197 : Nat) ≠ 256 by decide)]; exact z3, z4, by rw [va_up_ne _ _ (show (129 : Nat) ≠ 256 by decide)]; exact z5⟩
    obtain ⟨c2, s2, e2, v2, ht2⟩ := TKC_ex T hle.2.2.1
    have n33 : c ≠ 33 := fun y => by rw [y] at c8; exact absurd c8 (by decide)
    have nx : ∀ (K : Nat → Int32) (rK : Nat → Nat → Int32), (∀ f, f ≠ 397 → f ≠ 398 → f ≠ 399 → K f = I' f) → (∀ q, q ≠ 384 → rK q = r' q) → ∃ (I5 : Nat → Int32) (J5 : Nat → Int64), g_X12_nextToken_x K J' rK mj mq = (I5, J5, rK, mj, mq) ∧ RST n T c2 v2 s2 e2 P 0 I5 J5 rK ∧ (∀ f, f ≠ 391 → f ≠ 392 → f ≠ 393 → f ≠ 394 → I5 f = K f) ∧ tmM (I5 391).toInt (I5 393).toInt < tmM (I' 391).toInt (I' 393).toInt := fun K rK hK hr => by
      have hR1 := RST_f2 hR hK hr
      obtain ⟨I5, J5, f1, f2, f3⟩ := RST_n (mj := mj) (mq := mq) h3 hb hR1 hle.2.2.1 ht2
      obtain ⟨n1, _⟩ := tm_nx h3 hR1 n33 f2 ht2
      rw [hK 391 (by decide) (by decide) (by decide), hK 393 (by decide) (by decide) (by decide)] at n1
      exact ⟨I5, J5, f1, f2, f3, n1⟩
    have q256 : k ≤ 19 → (va_up I 256 (I 256 + 1) 256).toInt = ((k + 1 : Nat) : Int) := fun h => by rw [va_up_self]; exact upN f256 (by omega)
    have q257 : va_up r 257 (upd (r 257) (I 256).toNatClampNeg c) 257 = upd (r 257) k c := by rw [va_up_self, at_n f256]
    have cm1 : CAME (I' 399 ||| 1 <<< (srC c &&& 31)) (upd (r 257) k c) (k + 1) := cam_up cm h0 c8
    have q258 : va_up r 257 (upd (r 257) (I 256).toNatClampNeg c) 258 = r 258 := va_up_ne _ _ (by decide)
    have hS1 : (ES (va_up I 256 (I 256 + 1)) (va_up r 257 (upd (r 257) (I 256).toNatClampNeg c))).1.toInt = (tot M : Int) := by
      show (va_up I 256 (I 256 + 1) 132).toInt = _
      rw [va_up_ne _ _ (show (132 : Nat) ≠ 256 by decide)]; exact h132
    have hS2 : (ES (va_up I 256 (I 256 + 1)) (va_up r 257 (upd (r 257) (I 256).toNatClampNeg c))).2 = r 259 := by
      show va_up r 257 (upd (r 257) (I 256).toNatClampNeg c) 259 = r 259
      exact va_up_ne _ _ (by decide)
    have hA : ∀ v : Int32, (va_up I' 399 v 396 + 1 + 12 * va_up I' 399 v 397).toInt = ((W + 1 + 12 * k : Nat) : Int) := fun v => by
      rw [va_up_ne _ _ (show (396 : Nat) ≠ 399 by decide), va_up_ne _ _ (show (397 : Nat) ≠ 399 by decide)]
      have m1 := upN' g396 hW
      have m2 := i_mul (show (12 : Int32).toInt = 12 by decide) g397 (by omega) (by omega)
      have := i_add m1 m2 (by omega) (by omega)
      omega
    have hAd : ∀ (v d : Int32) (q : Nat), d.toInt = (q : Int) → q ≤ 10 → (va_up I' 399 v 396 + 1 + 12 * va_up I' 399 v 397 + d).toNatClampNeg = W + 1 + 12 * k + q := fun v d q hd hq => at_n (by
      have := i_add (hA v) hd (by omega) (by omega)
      omega)
    have hrk : ∀ v : Int32, va_up r' 384 (upd (r' 384) (va_up I' 399 v 396 + 1 + 12 * va_up I' 399 v 397).toNatClampNeg (srC c)) 384 = upd (r' 384) (W + 1 + 12 * k) (srC c) := fun v => by rw [va_up_self, at_n (hA v)]
    have pe : tot M ≤ e := by omega
    have up9 : ∀ (v : Int32) (f : Nat), f ≠ 397 → f ≠ 398 → f ≠ 399 → va_up I' 399 v f = I' f := fun v f _ _ h => va_up_ne _ _ h
    by_cases c3 : c.toInt < 4
    · rw [if_pos (show c < 4 from Int32.lt_iff_toInt_lt.mpr (by omega)), if_pos (show srC c < 5 from Int32.lt_iff_toInt_lt.mpr (by omega))]
      by_cases hk2 : k < 20
      · rw [if_pos (lt20.mpr hk2), if_neg (show ¬ I' 397 = 20 from fun y => by have := eq20.mp y; omega)]
        obtain ⟨I5, J5, f1, f2, f3, f4⟩ := nx (va_up I' 399 (I' 399 ||| 1 <<< (srC c &&& 31))) (va_up r' 384 (upd (r' 384) ((va_up I' 399 (I' 399 ||| 1 <<< (srC c &&& 31)) 396 : Int32) + (1 : Int32) + (12 : Int32) * (va_up I' 399 (I' 399 ||| 1 <<< (srC c &&& 31)) 397 : Int32)).toNatClampNeg (srC c))) (up9 _) (fun q hq => va_up_ne r' _ hq)
        rw [bv_n f1]
        have z397 : (I5 397).toInt = (k : Int) := by rw [f3 397 (by decide) (by decide) (by decide) (by decide), va_up_ne _ _ (show (397 : Nat) ≠ 399 by decide)]; exact g397
        have z399 : I5 399 = I' 399 ||| 1 <<< (srC c &&& 31) := by rw [f3 399 (by decide) (by decide) (by decide) (by decide), va_up_self]
        have z396 : (I5 396).toInt = (W : Int) := by rw [f3 396 (by decide) (by decide) (by decide) (by decide), va_up_ne _ _ (show (396 : Nat) ≠ 399 by decide)]; exact g396
        have hR5 : RST n T c2 v2 s2 e2 P 0 I5 J5 (va_up (va_up r' 384 (upd (r' 384) ((va_up I' 399 (I' 399 ||| 1 <<< (srC c &&& 31)) 396 : Int32) + (1 : Int32) + (12 : Int32) * (va_up I' 399 (I' 399 ||| 1 <<< (srC c &&& 31)) 397 : Int32)).toNatClampNeg (srC c))) 384 (upd ((va_up r' 384 (upd (r' 384) ((va_up I' 399 (I' 399 ||| 1 <<< (srC c &&& 31)) 396 : Int32) + (1 : Int32) + (12 : Int32) * (va_up I' 399 (I' 399 ||| 1 <<< (srC c &&& 31)) 397 : Int32)).toNatClampNeg (srC c))) 384) (((va_up I' 399 (I' 399 ||| 1 <<< (srC c &&& 31)) 396 : Int32) + (1 : Int32) + (12 : Int32) * (va_up I' 399 (I' 399 ||| 1 <<< (srC c &&& 31)) 397 : Int32)) + (2 : Int32)).toNatClampNeg (I5 398))) := RST_f2 f2 (fun _ _ _ _ => rfl) (fun q hq => va_up_ne _ _ hq)
        have z398 : (I5 398).toInt = (w : Int) := by rw [f3 398 (by decide) (by decide) (by decide) (by decide), va_up_ne _ _ (show (398 : Nat) ≠ 399 by decide)]; exact h398
        have hF2 : (FS I5 (va_up (va_up r' 384 (upd (r' 384) ((va_up I' 399 (I' 399 ||| 1 <<< (srC c &&& 31)) 396 : Int32) + (1 : Int32) + (12 : Int32) * (va_up I' 399 (I' 399 ||| 1 <<< (srC c &&& 31)) 397 : Int32)).toNatClampNeg (srC c))) 384 (upd ((va_up r' 384 (upd (r' 384) ((va_up I' 399 (I' 399 ||| 1 <<< (srC c &&& 31)) 396 : Int32) + (1 : Int32) + (12 : Int32) * (va_up I' 399 (I' 399 ||| 1 <<< (srC c &&& 31)) 397 : Int32)).toNatClampNeg (srC c))) 384) (((va_up I' 399 (I' 399 ||| 1 <<< (srC c &&& 31)) 396 : Int32) + (1 : Int32) + (12 : Int32) * (va_up I' 399 (I' 399 ||| 1 <<< (srC c &&& 31)) 397 : Int32)) + (2 : Int32)).toNatClampNeg (I5 398)))).2 = upd (upd (r' 384) (W + 1 + 12 * k) (srC c)) (W + 1 + 12 * k + 2) (I5 398) := by
          rw [FS_2, va_up_self, hrk, hAd _ 2 2 (by decide) (by decide)]
        have E := eith_sim (J := J) (rj := rj) (rq := rq) (mj := mj) (mq := mq) h3 hb hp1.1 hp1.2.1 hp1.2.2.1 hp1.2.2.2.1 hp1.2.2.2.2 ht2 hR5 rfl rfl rfl (Nat.le_refl _)
        have fx : FRG id w_X4_readEither _ (g_X4_readEither (va_up I 256 (I 256 + 1)) J (va_up r 257 (upd (r 257) (I 256).toNatClampNeg c)) rj rq) := g_X4_readEither_f
        have fy : ∀ rK, FRG Prod.snd w_X12_either (I5, J5, rK, mj, mq) (g_X12_either I5 J5 rK mj mq) := fun rK => g_X12_either_f
        exact close h3 hb (by omega) (ERES_w E (Int.le_of_lt f4)) ((congrArg Int32.toInt (fx.1 256 (by decide))).trans (q256 (by omega))) ((fx.2.2.1 257 (by decide)).trans q257) ((fx.2.2.1 258 (by decide)).trans q258) ((congrArg Int32.toInt ((fy _).1 397 (by decide))).trans z397) (((fy _).1 399 (by decide)).trans z399) ((congrArg Int32.toInt ((fy _).1 396 (by decide))).trans z396) cm1 (fun I3 r3 => va_up r3 384 (upd (r3 384) (((va_up I' 399 (I' 399 ||| 1 <<< (srC c &&& 31)) 396 : Int32) + (1 : Int32) + (12 : Int32) * (va_up I' 399 (I' 399 ||| 1 <<< (srC c &&& 31)) 397 : Int32)) + (3 : Int32)).toNatClampNeg (I3 398))) (fun _ _ _ h => va_up_ne _ _ h) (fun If rf I1 r1 p2 p3 I2 hc h256 h257 h258 h1 h2 h3' => dcl_ei hc (at_n h256) (hAd _ 3 3 (by decide) (by decide)) hf0 hM (by omega) hW z396 hC hRT hw pe hS1 hS2 z398 hF2 h257 h258 h1 h2 c3 h3') (fun I1 r1 z => low_ei z (hAd _ 3 3 (by decide) (by decide)) hf0 hW z396 (by omega) z398 hF2)
      · rw [if_neg (fun y => hk2 (lt20.mp y)), if_pos (eq20.mpr (by omega))]
        exact rf 5 (by decide)
    · rw [if_neg (show ¬ c < 4 from fun y => by have := Int32.lt_iff_toInt_lt.mp y; omega), if_neg (show ¬ srC c < 5 from fun y => by have := Int32.lt_iff_toInt_lt.mp y; omega)]
      obtain ⟨y, y1, y2⟩ := fo_v (a := c) (J := J) (ri := r) (rj := rj) (rq := rq) f256 hk
      rw [bn_n y1]
      have tb : (I' 399 >>> (srC c &&& 31)) &&& 1 = 1 ↔ ∃ i, i < k ∧ r 257 i = c := by
        rw [sv1, tb_1 (s := c.toInt.toNat + 1) (by omega)]
        exact cm c (by omega) c8
      by_cases q : ∃ i, i < k ∧ r 257 i = c
      · rw [if_neg (fun z => (y2.mp z) q), if_pos (tb.mpr q)]
        exact rf 4 (by decide)
      · rw [if_pos (y2.mpr q), if_neg (fun z => q (tb.mp z))]
        by_cases hk2 : k < 20
        · rw [if_pos (lt20.mpr hk2), if_neg (show ¬ I' 397 = 20 from fun y => by have := eq20.mp y; omega)]
          obtain ⟨I5, J5, f1, f2, f3, f4⟩ := nx (va_up I' 399 (I' 399 ||| 1 <<< (srC c &&& 31))) (va_up r' 384 (upd (r' 384) ((va_up I' 399 (I' 399 ||| 1 <<< (srC c &&& 31)) 396 : Int32) + (1 : Int32) + (12 : Int32) * (va_up I' 399 (I' 399 ||| 1 <<< (srC c &&& 31)) 397 : Int32)).toNatClampNeg (srC c))) (up9 _) (fun q hq => va_up_ne r' _ hq)
          rw [bv_n f1]
          have z397 : (I5 397).toInt = (k : Int) := by rw [f3 397 (by decide) (by decide) (by decide) (by decide), va_up_ne _ _ (show (397 : Nat) ≠ 399 by decide)]; exact g397
          have z399 : I5 399 = I' 399 ||| 1 <<< (srC c &&& 31) := by rw [f3 399 (by decide) (by decide) (by decide) (by decide), va_up_self]
          have z396 : (I5 396).toInt = (W : Int) := by rw [f3 396 (by decide) (by decide) (by decide) (by decide), va_up_ne _ _ (show (396 : Nat) ≠ 399 by decide)]; exact g396
          have z398 : (I5 398).toInt = (w : Int) := by rw [f3 398 (by decide) (by decide) (by decide) (by decide), va_up_ne _ _ (show (398 : Nat) ≠ 399 by decide)]; exact h398
          by_cases c6 : 5 < c.toInt
          · rw [if_pos (show 5 < c from Int32.lt_iff_toInt_lt.mpr (by omega)), if_pos (show 6 < srC c from Int32.lt_iff_toInt_lt.mpr (by omega))]
            -- a number
            have num : ∀ (a x : Int32) (rK : Nat → Nat → Int32), RST n T c2 v2 s2 e2 P 0 I5 J5 rK → a.toInt ≤ 9999 → rK 384 = upd (r' 384) (W + 1 + 12 * k) (srC c) → x.toNatClampNeg = W + 1 + 12 * k + 1 → CRES J rj rq mj mq n T k W (DCL W c M f0) f0 (bnV (g_X4_readNumber a (va_up I 256 (I 256 + 1)) J (va_up r 257 (upd (r 257) (I 256).toNatClampNeg c)) rj rq) fun (I2 : Nat → Int32) (_ : Nat → Int64) (r2 : Nat → Nat → Int32) (_ : Nat → Nat → Int64) (_ : Nat → Nat → Option Nat) => ((I2, J, va_up r2 258 (upd (r2 258) (I2 256).toNatClampNeg (I2 132)), rj, rq) : vM)) (bnI (g_X12_take a x I5 J5 rK mj mq) fun (x : Int32) (I3 : Nat → Int32) (J3 : Nat → Int64) (r3 : Nat → Nat → Int32) (_ : Nat → Nat → Int64) (_ : Nat → Nat → Option Nat) => if x = 0 then (if I3 393 = 59 then bnV (g_X12_nextToken_x (va_up I3 397 (I3 397 + 1)) J3 r3 mj mq) fun (I5 : Nat → Int32) (J5 : Nat → Int64) (_ : Nat → Nat → Int32) (_ : Nat → Nat → Int64) (_ : Nat → Nat → Option Nat) => (((0 : Int32), I5, J5, r3, mj, mq) : Int32 × vM) else ((1 : Int32), I3, J3, r3, mj, mq)) else (x, I3, J3, r3, mj, mq)) (tmM (I' 391).toInt (I' 393).toInt) := fun a x rK hRK ha hg hx => by
              have E := num_sim (J := J) (rj := rj) (rq := rq) (mj := mj) (mq := mq) (x := x) h3 hb ha hp1 ht2 hRK
              have fx : FRG id w_X4_readNumber _ (g_X4_readNumber a (va_up I 256 (I 256 + 1)) J (va_up r 257 (upd (r 257) (I 256).toNatClampNeg c)) rj rq) := g_X4_readNumber_f
              have fy : FRG Prod.snd w_X12_take (I5, J5, rK, mj, mq) (g_X12_take a x I5 J5 rK mj mq) := g_X12_take_f
              exact close h3 hb (by omega) (ERES_w E (Int.le_of_lt f4)) ((congrArg Int32.toInt (fx.1 256 (by decide))).trans (q256 (by omega))) ((fx.2.2.1 257 (by decide)).trans q257) ((fx.2.2.1 258 (by decide)).trans q258) ((congrArg Int32.toInt (fy.1 397 (by decide))).trans z397) ((fy.1 399 (by decide)).trans z399) ((congrArg Int32.toInt (fy.1 396 (by decide))).trans z396) cm1 (fun _ r3 => r3) (fun _ _ _ _ => rfl) (fun If rf I1 r1 p2 p3 I2 hc h256 h257 h258 h1 h2 h3' => dcl_nu hc (at_n h256) hg hx hf0 hM (by omega) hC hRT hw pe hS1 hS2 z398 h257 h258 h1 h2 (by omega) h3') (fun I1 r1 z => low_nu z hg hx hf0)
            have d : c.toInt = 6 ∨ c.toInt = 7 ∨ c.toInt = 8 := by omega
            rcases d with d | d | d
            · have ec : c = 6 := to_k (k := 6) d (by decide)
              rw [show g_X4_mostOf c = 100 by rw [ec]; decide, if_pos (show srC c = 7 by rw [ec]; decide)]
              exact num 100 _ _ f2 (by decide) (hrk _) (hAd _ 1 1 (by decide) (by decide))
            · have ec : c = 7 := to_k (k := 7) d (by decide)
              rw [show g_X4_mostOf c = 599 by rw [ec]; decide, if_neg (show ¬ srC c = 7 by rw [ec]; decide), if_pos (show srC c = 8 by rw [ec]; decide)]
              exact num 599 _ _ f2 (by decide) (hrk _) (hAd _ 1 1 (by decide) (by decide))
            · have ec : c = 8 := to_k (k := 8) d (by decide)
              rw [show g_X4_mostOf c = 1000 by rw [ec]; decide, if_neg (show ¬ srC c = 7 by rw [ec]; decide), if_neg (show ¬ srC c = 8 by rw [ec]; decide)]
              exact num 1000 _ _ f2 (by decide) (hrk _) (hAd _ 1 1 (by decide) (by decide))
          · rw [if_neg (show ¬ 5 < c from fun y => by have := Int32.lt_iff_toInt_lt.mp y; omega), if_neg (show ¬ 6 < srC c from fun y => by have := Int32.lt_iff_toInt_lt.mp y; omega)]
            -- KEYS
            have hgk : upd (va_up r' 384 (upd (r' 384) ((va_up I' 399 (I' 399 ||| 1 <<< (srC c &&& 31)) 396 : Int32) + (1 : Int32) + (12 : Int32) * (va_up I' 399 (I' 399 ||| 1 <<< (srC c &&& 31)) 397 : Int32)).toNatClampNeg (srC c)) 384) (((va_up I' 399 (I' 399 ||| 1 <<< (srC c &&& 31)) 396 : Int32) + (1 : Int32) + (12 : Int32) * (va_up I' 399 (I' 399 ||| 1 <<< (srC c &&& 31)) 397 : Int32)) + (4 : Int32)).toNatClampNeg 0 = upd (upd (r' 384) (W + 1 + 12 * k) (srC c)) (W + 1 + 12 * k + 4) 0 := by rw [hrk, hAd _ 4 4 (by decide) (by decide)]
            have E := keys_sim (J := J) (rj := rj) (rq := rq) (mj := mj) (mq := mq) h3 hb (hA (I' 399 ||| 1 <<< (srC c &&& 31))) (by omega) hp1 ht2 f2
            have fx : FRG id w_X4_readKeys _ (g_X4_readKeys (va_up I 256 (I 256 + 1)) J (va_up r 257 (upd (r 257) (I 256).toNatClampNeg c)) rj rq) := g_X4_readKeys_f
            have fy : ∀ a rK, FRG Prod.snd w_X12_keys (I5, J5, rK, mj, mq) (g_X12_keys a I5 J5 rK mj mq) := fun a rK => g_X12_keys_f
            exact close h3 hb (by omega) (ERES_w E (Int.le_of_lt f4)) ((congrArg Int32.toInt (fx.1 256 (by decide))).trans (q256 (by omega))) ((fx.2.2.1 257 (by decide)).trans q257) ((fx.2.2.1 258 (by decide)).trans q258) ((congrArg Int32.toInt ((fy _ _).1 397 (by decide))).trans z397) (((fy _ _).1 399 (by decide)).trans z399) ((congrArg Int32.toInt ((fy _ _).1 396 (by decide))).trans z396) cm1 (fun _ r3 => r3) (fun _ _ _ _ => rfl) (fun If rf I1 r1 p2 p3 I2 hc h256 h257 h258 h1 h2 h3' => dcl_ke hc (at_n h256) hgk hf0 hM (by omega) hW (hA _) hC hRT hw pe hS1 hS2 z398 h257 h258 h1 h2 (by omega) h3') (fun I1 r1 z => low_ke z hgk hf0 (by omega) hW (hA _))
        · rw [if_neg (fun y => hk2 (lt20.mp y)), if_pos (eq20.mpr (by omega))]
          exact rf 5 (by decide)
  · rw [if_neg (show ¬ c ≤ 8 from fun y => by have := Int32.le_iff_toInt_le.mp y; omega), if_pos (sr_0 (by omega))]
    exact rf 1 (by decide)
end PR12
/-! ===== pure: a TEXT, both sides ===== -/
section PR13
variable {J : Nat → Int64} {rj : Nat → Nat → Int64} {rq : Nat → Nat → Option Nat} {mj : Nat → Nat → Int64} {mq : Nat → Nat → Option Nat}
theorem adv_f {I : Nat → Int32} {r : Nat → Nat → Int32} : ∃ I2 : Nat → Int32, g_X6_advance I J r rj rq = (I2, J, r, rj, rq) ∧ I2 129 = I 129 ∧ I2 130 = I 130 := by
  have fx : FRG id w_X6_advance (I, J, r, rj, rq) (g_X6_advance I J r rj rq) := g_X6_advance_f
  generalize g_X6_advance I J r rj rq = A at fx ⊢
  obtain ⟨I2, J2, r2, l2, q2⟩ := A
  have fv : FRV w_X6_advance (I, J, r, rj, rq) (I2, J2, r2, l2, q2) := fx
  have e1 : J2 = J := fe_J fv
  have e2 : r2 = r := fe_ri fv
  have e3 : l2 = rj := fe_rj fv
  have e4 : q2 = rq := fe_rq fv
  subst e1 e2 e3 e4
  exact ⟨I2, rfl, fv.1 129 (by decide), fv.1 130 (by decide)⟩
theorem RD_f {N : Nat} {x : Int32} {I : Nat → Int32} {r : Nat → Nat → Int32} (h : I 129 ≠ 0) : g_X4_read_rest_L42 J rj rq N x I r = (I, J, r, rj, rq) := by
  cases N with
  | zero => rfl
  | succ N =>
    rw [g_X4_read_rest_L42_e]
    try simp only [↓ap1_n]
    by_cases c : (300 : Int32) < x
    · rw [if_pos c]
    · rw [if_neg c, if_neg h]
/-- how the reading of a TEXT ends: a fault and its place, or as many CLAUSES -/
def TRES (J : Nat → Int64) (rj : Nat → Nat → Int64) (rq : Nat → Nat → Option Nat) (mj : Nat → Nat → Int64) (mq : Nat → Nat → Option Nat) (W : Nat) (z : Int32) (f0 : Nat → Int32) (X : vM) (Y : Int32 × vM) : Prop := ∃ (f : Int32) (I1 : Nat → Int32) (J1 : Nat → Int64) (r1 : Nat → Nat → Int32) (If : Nat → Int32) (rf : Nat → Nat → Int32), Y = (f, I1, J1, r1, mj, mq) ∧ X = (If, J, rf, rj, rq) ∧ (∀ j, j ≤ W → r1 384 j = f0 j) ∧ ((f ≠ 0 ∧ If 129 = f ∧ If 130 = I1 392) ∨ (f = 0 ∧ If 129 = 0 ∧ If 130 = z ∧ If 256 = I1 397 ∧ (I1 396).toInt = (W : Int) ∧ ∃ (M : CLs) (w : Nat), (I1 397).toInt = (M.length : Int) ∧ M.length ≤ 20 ∧ CTX rf M ∧ RTX W (r1 384) M w ∧ w ≤ tot M ∧ tot M ≤ 300))
theorem text_L {n : Nat} {T : Nat → Int32} (h3 : n ≤ 300) (hb : ∀ j, j < n → 0 ≤ (T j).toInt) {W : Nat} (hW : W ≤ 20000) {z : Int32} {f0 : Nat → Int32} : ∀ (m N : Nat) (x : Int32) (I : Nat → Int32) (r : Nat → Nat → Int32) (I' : Nat → Int32) (J' : Nat → Int64) (r' : Nat → Nat → Int32) (P : List Int32) (p : Nat) (c v : Int32) (s e k : Nat), (tmM (I' 391).toInt (I' 393).toInt).toNat < m → x.toInt = (k : Int) → k ≤ 20 → 301 - k < N → PST n e T I r → I 194 = c → (I 195).toInt = (s : Int) → (I 256).toInt = (k : Int) → I 130 = z → TKC T n p c s e v → RST n T c v s e P 0 I' J' r' → (I' 397).toInt = (k : Int) → CAME (I' 399) (r 257) k → (I' 396).toInt = (W : Int) → ∀ (M : CLs) (w : Nat), M.length = k → CTX r M → RTX W (r' 384) M w → w ≤ tot M → tot M ≤ p → (I 132).toInt = (tot M : Int) → (I' 398).toInt = (w : Int) → (∀ j, j ≤ W → r' 384 j = f0 j) → TRES J rj rq mj mq W z f0 (g_X4_read_rest_L42 J rj rq N x I r) (g_X12_readText_L48 mj mq m I' J' r') := by
  intro m
  induction m with
  | zero => intro _ _ _ _ _ _ _ _ _ _ _ _ _ _ h; exact absurd h (Nat.not_lt_zero _)
  | succ m ih =>
    intro N x I r I' J' r' P p c v s e k hm hx hk hN hp g1 g2 g256 g130 ht hR g397 cm g396 M w hM hC hRT hw hp0 h132 h398 hf0
    cases N with
    | zero => exact absurd hN (Nat.not_lt_zero _)
    | succ N =>
    have k300 : (300 : Int32).toInt = 300 := by decide
    have hR' := hR
    obtain ⟨_, ⟨b1, b2, b3⟩, _, _⟩ := hR'
    have t33 := b3.2.2.1
    rw [g_X4_read_rest_L42_e, g_X12_readText_L48_e]
    try simp only [↓ap1_n]
    rw [if_neg (show ¬ (300 : Int32) < x from fun q => by have := Int32.lt_iff_toInt_lt.mp q; omega), if_pos hp.2.2.2.2, g1]
    by_cases c33 : c = 33
    · rw [if_pos c33, if_pos (t33.mpr c33)]
      exact ⟨0, I', J', r', I, r, rfl, rfl, hf0, Or.inr ⟨rfl, hp.2.2.2.2, g130, Int32.toInt_inj.mp (g256.trans g397.symm), g396, M, w, by rw [hM]; exact g397, by omega, hC, hRT, hw, by have := TKC_le ht; omega⟩⟩
    · rw [if_neg c33, if_neg (fun y => c33 (t33.mp y))]
      obtain ⟨f, I1, J1, r1, e1, h⟩ := clause_sim (J := J) (rj := rj) (rq := rq) (mj := mj) (mq := mq) h3 hb hp g1 g2 g256 hk ht hR g397 cm g396 hW hM hC hRT hw hp0 h132 h398 hf0
      rw [bn_n e1]
      rcases h with ⟨y, s0, y1, ⟨If, rf, x1, x2, x3⟩, lw⟩ | ⟨y, p2, c2, v2, s2, e2, P2, If, rf, a1, a2, x1, a4, ⟨k19, a5, a6, a7, a8⟩, a9, E, w2, d1, d2, d3, d4, d5, d6, d7⟩
      · rw [bv_n x1, if_neg y]
        obtain ⟨I2, i1, i2, i3⟩ := adv_f (J := J) (rj := rj) (rq := rq) (I := If) (r := rf)
        rw [bv_n i1, RD_f (by rw [i2, x2]; exact y)]
        exact ⟨f, I1, J1, r1, I2, rf, rfl, rfl, lw, Or.inl ⟨y, i2.trans x2, i3.trans (Int32.toInt_inj.mp (x3.trans y1.symm))⟩⟩
      · subst y
        rw [bv_n x1, if_pos (show (0 : Int32) = 0 from rfl)]
        obtain ⟨I2, i1, i2, i3, _, hp2, i6⟩ := PST_n (J := J) (rj := rj) (rq := rq) h3 a4 a1
        rw [bv_n i1]
        have sy : STG id I (g_X4_readClause I J r rj rq) := g_X4_readClause_s
        rw [x1] at sy
        have z130 : If 130 = z := by
          rcases sy with q | ⟨_, q⟩
          · exact absurd a4.2.2.2.2 q
          · exact q.trans g130
        have te : 0 ≤ tmM (I1 391).toInt (I1 393).toInt := tm_b (by have := a2.2.1.1; have := (TKC_le a1).2.2.1; omega)
        exact ih N (x + Int32.ofInt 1) I2 rf I1 J1 r1 P2 p2 c2 v2 s2 e2 (k + 1) (by omega) (up_i hx (by omega)) (by omega) (by omega) hp2 i2 i3 (by rw [i6 256 (by decide) (by decide) (by decide) (by decide)]; exact a5) (by rw [i6 130 (by decide) (by decide) (by decide) (by decide)]; exact z130) a1 a2 a6 a7 a8 ((c, E) :: M) w2 (by show M.length + 1 = k + 1; rw [hM]) d1 d2 d5 d6 (by rw [i6 132 (by decide) (by decide) (by decide) (by decide)]; exact d4) d3 d7
/-- read() of the class, behind its beginning, and readText() of the reference -/
theorem text_sim {n : Nat} {T : Nat → Int32} (h3 : n ≤ 300) (hb : ∀ j, j < n → 0 ≤ (T j).toInt) {I : Nat → Int32} {r : Nat → Nat → Int32} (hn : (I 193).toInt = (n : Int)) (hT : r 192 = T) (h129 : I 129 = 0) (h256 : I 256 = 0) {I' : Nat → Int32} {J' : Nat → Int64} {r' : Nat → Nat → Int32} (mn : (I' 388).toInt = (n : Int)) (mT : r' 387 = T) (m401 : 0 ≤ (I' 401).toInt) {t : Nat} (h6 : (r' 384 6).toInt = (t : Int)) (ht9 : t ≤ 9) (h258 : r 258 0 = 0) : TRES J rj rq mj mq (3720 + 900 * t) (I 130) (r' 384) (g_X4_read_rest I J r rj rq) (g_X12_readText I' J' r' mj mq) := by
  have k0 : (0 : Int32).toInt = 0 := by decide
  rw [g_X4_read_rest_e, g_X12_readText_e]
  try simp only [↓ap1_n]
  rw [g_X6_rewind_e]
  try simp only [↓ap1_n]
  rw [bv_n (show ((va_up (va_up I 132 0) 197 0, J, r, rj, rq) : vM) = (va_up (va_up I 132 0) 197 0, J, r, rj, rq) from rfl)]
  -- the class at its first TOKEN
  have hp : PST n 0 T (va_up (va_up I 132 0) 197 0) r := ⟨by rw [va_up_ne _ _ (show (193 : Nat) ≠ 197 by decide), va_up_ne _ _ (show (193 : Nat) ≠ 132 by decide)]; exact hn, hT, by rw [va_up_self]; exact k0, Nat.zero_le _, by rw [va_up_ne _ _ (show (129 : Nat) ≠ 197 by decide), va_up_ne _ _ (show (129 : Nat) ≠ 132 by decide)]; exact h129⟩
  obtain ⟨c, s, e, v, ht⟩ := TKC_ex T (n := n) (p := 0) (Nat.zero_le _)
  obtain ⟨I2, i1, i2, i3, _, hp2, i6⟩ := PST_n (J := J) (rj := rj) (rq := rq) h3 hp ht
  rw [bv_n i1]
  -- the reference at its first TOKEN
  generalize hK : va_up (va_up (va_up (va_up (va_up (va_up I' 396 (3720 + 900 * r' 384 6)) 397 0) 398 0) 402 0) 399 0) 391 0 = K
  have zz : ∀ f, f ≠ 396 → f ≠ 397 → f ≠ 398 → f ≠ 402 → f ≠ 399 → f ≠ 391 → K f = I' f := fun f h1 h2 h3 h4 h5 h6 => by rw [← hK, va_up_ne _ _ h6, va_up_ne _ _ h5, va_up_ne _ _ h4, va_up_ne _ _ h3, va_up_ne _ _ h2, va_up_ne _ _ h1]
  have z391 : K 391 = 0 := by rw [← hK, va_up_self]
  have z399 : K 399 = 0 := by rw [← hK, va_up_ne _ _ (show (399 : Nat) ≠ 391 by decide), va_up_self]
  have z402 : K 402 = 0 := by rw [← hK, va_up_ne _ _ (show (402 : Nat) ≠ 391 by decide), va_up_ne _ _ (show (402 : Nat) ≠ 399 by decide), va_up_self]
  have z397 : K 397 = 0 := by rw [← hK, va_up_ne _ _ (show (397 : Nat) ≠ 391 by decide), va_up_ne _ _ (show (397 : Nat) ≠ 399 by decide), va_up_ne _ _ (show (397 : Nat) ≠ 402 by decide), va_up_ne _ _ (show (397 : Nat) ≠ 398 by decide), va_up_self]
  have z398 : K 398 = 0 := by rw [← hK, va_up_ne _ _ (show (398 : Nat) ≠ 391 by decide), va_up_ne _ _ (show (398 : Nat) ≠ 399 by decide), va_up_ne _ _ (show (398 : Nat) ≠ 402 by decide), va_up_self]
  have z396 : K 396 = 3720 + 900 * r' 384 6 := by rw [← hK, va_up_ne _ _ (show (396 : Nat) ≠ 391 by decide), va_up_ne _ _ (show (396 : Nat) ≠ 399 by decide), va_up_ne _ _ (show (396 : Nat) ≠ 402 by decide), va_up_ne _ _ (show (396 : Nat) ≠ 398 by decide), va_up_ne _ _ (show (396 : Nat) ≠ 397 by decide), va_up_self]
  have w396 : (3720 + 900 * r' 384 6).toInt = ((3720 + 900 * t : Nat) : Int) := by
    have m1 := i_mul (show (900 : Int32).toInt = 900 by decide) h6 (by omega) (by omega)
    have := i_add (show (3720 : Int32).toInt = 3720 by decide) m1 (by omega) (by omega)
    omega
  obtain ⟨I5, J5, f1, f2, f3, f4, f5, f6⟩ := ntk_v (J := J') (ri := r') (rj := mj) (rq := mq) (I := K) (p := 0) h3 (by rw [zz 388 (by decide) (by decide) (by decide) (by decide) (by decide) (by decide)]; exact mn) (by rw [z391]; exact k0) (Nat.zero_le _) (by rw [mT]; exact hb) (by rw [mT]; exact ht)
  rw [bv_n f1]
  have q : ∀ f, f ≠ 391 → f ≠ 392 → f ≠ 393 → f ≠ 394 → I5 f = K f := f5
  have hR : RST n T c v s e (stl (r' 400) (I' 401).toInt.toNat) 0 I5 J5 r' := ⟨⟨by rw [q 388 (by decide) (by decide) (by decide) (by decide), zz 388 (by decide) (by decide) (by decide) (by decide) (by decide) (by decide)]; exact mn, mT⟩, ⟨f2, f3, f4⟩, ⟨by rw [q 401 (by decide) (by decide) (by decide) (by decide), zz 401 (by decide) (by decide) (by decide) (by decide) (by decide) (by decide), stl_len]; omega, by rw [stl_len]⟩, by rw [q 402 (by decide) (by decide) (by decide) (by decide), z402]; exact k0⟩
  have z130 : I2 130 = I 130 := by rw [i6 130 (by decide) (by decide) (by decide) (by decide), va_up_ne _ _ (show (130 : Nat) ≠ 197 by decide), va_up_ne _ _ (show (130 : Nat) ≠ 132 by decide)]
  rw [← z130]
  exact text_L h3 hb (by omega) _ _ 0 I2 r I5 J5 r' _ 0 c v s e 0 (Nat.lt_succ_self _) k0 (Nat.zero_le _) (by rw [k0]; omega) hp2 i2 i3 (by rw [i6 256 (by decide) (by decide) (by decide) (by decide), va_up_ne _ _ (show (256 : Nat) ≠ 197 by decide), va_up_ne _ _ (show (256 : Nat) ≠ 132 by decide), h256]; exact k0) rfl ht hR (by rw [q 397 (by decide) (by decide) (by decide) (by decide), z397]; exact k0) (by rw [q 399 (by decide) (by decide) (by decide) (by decide), z399]; exact cam_0) (by rw [q 396 (by decide) (by decide) (by decide) (by decide), z396]; exact w396) [] 0 rfl (show (r 258 0).toInt = 0 by rw [h258]; exact k0) rfl (Nat.le_refl _) (Nat.le_refl _) (by rw [i6 132 (by decide) (by decide) (by decide) (by decide), va_up_ne _ _ (show (132 : Nat) ≠ 197 by decide), va_up_self]; exact k0) (by rw [q 398 (by decide) (by decide) (by decide) (by decide), z398]; exact k0) (fun _ _ => rfl)
end PR13
/-! ===== pure: the calls of the tape and the TEXTS' counts, both sides ===== -/
section PT0
variable {I : Nat → Int32} {J : Nat → Int64} {ri : Nat → Nat → Int32} {rj : Nat → Nat → Int64} {rq : Nat → Nat → Option Nat}
variable {U : Nat → Int32} {V : Nat → Int64} {si : Nat → Nat → Int32} {sj : Nat → Nat → Int64} {sq : Nat → Nat → Option Nat}
theorem b_ushr (n : Nat) (hn : n < 32) (a : Int32) {s : UInt32} (hs : s.toNat = n) (i : Nat) : b3 (a.toUInt32 >>> s).toInt32 i = b3 a (n + i) := by
  have e : (a.toUInt32 >>> s).toInt32.toBitVec = a.toBitVec >>> n := by
    apply BitVec.eq_of_toNat_eq
    show (a.toUInt32 >>> s).toNat = _
    rw [UInt32.toNat_shiftRight, hs, Nat.mod_eq_of_lt hn, BitVec.toNat_ushiftRight]
    rfl
  unfold b3
  rw [e, BitVec.getLsbD_ushiftRight]
theorem hi_255 : ∀ i, i < 32 → ¬ i < 8 → b3 (255 : Int32) i = false := by decide +kernel
/-- the byte at a shift, both ways of shifting -/
theorem shr_8 {k : Nat} (hk : k ≤ 24) (a : Int32) {s : UInt32} (hs : s.toNat = k) : (a.toUInt32 >>> s).toInt32 &&& 255 = (a >>> (nI k &&& 31)) &&& 255 := by
  refine b_ext (fun i hi => ?_)
  rw [b_and, b_and, b_ushr k (by omega) a hs, b_sshr k (by omega) a hi]
  by_cases h : i < 8
  · rw [if_pos (by omega)]
  · rw [hi_255 i hi h, Bool.and_false, Bool.and_false]
theorem nn_255 (z : Int32) : 0 ≤ (z &&& 255).toInt := by
  have h : (z &&& 255).toBitVec.msb = false := by
    rw [BitVec.msb_eq_getLsbD_last]
    show b3 (z &&& 255) 31 = false
    rw [b_and, hi_255 31 (by decide) (by decide)]
    exact Bool.and_false _
  show 0 ≤ (z &&& 255).toBitVec.toInt
  rw [BitVec.toInt_eq_toNat_of_msb h]
  exact Int.natCast_nonneg _
/-- the tape and the latest FAULT, both sides alike -/
def RDR (I : Nat → Int32) (r : Nat → Nat → Int32) (U : Nat → Int32) (s : Nat → Nat → Int32) : Prop := (0 ≤ (I 193).toInt ∧ (I 193).toInt ≤ 300) ∧ I 193 = U 388 ∧ r 192 = s 387 ∧ (∀ j, 0 ≤ (r 192 j).toInt) ∧ I 129 = U 389 ∧ I 130 = U 390
theorem RDR_cg {I1 U1 : Nat → Int32} {r1 s1 : Nat → Nat → Int32} (h : RDR I ri U si) (e1 : I1 193 = I 193) (e2 : I1 129 = I 129) (e3 : I1 130 = I 130) (e4 : r1 192 = ri 192) (e5 : U1 388 = U 388) (e6 : U1 389 = U 389) (e7 : U1 390 = U 390) (e8 : s1 387 = si 387) : RDR I1 r1 U1 s1 := by
  unfold RDR
  rw [e1, e2, e3, e4, e5, e6, e7, e8]
  exact h
/-- how many TEXTS and FORCES -/
def TCR (I : Nat → Int32) (A : Nat → Int32) : Prop := I 96 = A 6 ∧ I 98 = A 7
theorem TCR_cg {I1 A A1 : Nat → Int32} (h : TCR I A) (e1 : I1 96 = I 96) (e2 : I1 98 = I 98) (e3 : A1 6 = A 6) (e4 : A1 7 = A 7) : TCR I1 A1 := by
  unfold TCR
  rw [e1, e2, e3, e4]
  exact h
/-- the same answer, and the tapes stand alike -/
def FV (b c : Int32 × vM) : Prop := b.1 = c.1 ∧ RDR b.2.1 b.2.2.2.1 c.2.1 c.2.2.2.1
def TV (b c : Int32 × vM) : Prop := b.1 = c.1 ∧ TCR b.2.1 (c.2.2.2.1 384)
/-- four bytes more, from a shift on -/
theorem four_L (a : Int32) : ∀ (k n m : Nat) (x : Int32) (I : Nat → Int32) (r : Nat → Nat → Int32) (U : Nat → Int32) (s : Nat → Nat → Int32), x.toInt = 8 * (k : Int) - 8 → k ≤ 4 → k < n → k < m → RDR I r U s → (I 193).toInt + k ≤ 300 → ∃ (I1 : Nat → Int32) (r1 : Nat → Nat → Int32) (U1 : Nat → Int32) (s1 : Nat → Nat → Int32), g_X6_append_L3 a J rj rq n x I r = (I1, J, r1, rj, rq) ∧ g_X12_four_L3 a V sj sq m x U s = (U1, V, s1, sj, sq) ∧ RDR I1 r1 U1 s1 ∧ (I1 193).toInt = (I 193).toInt + k := by
  intro k
  have k0 : (0 : Int32).toInt = 0 := by decide
  have k300 : (300 : Int32).toInt = 300 := by decide
  have k8 : (Int32.ofInt (-8)).toInt = -8 := by decide
  induction k with
  | zero =>
    intro n m x I r U s hx _ hn hm hR _
    cases n with
    | zero => exact absurd hn (Nat.not_lt_zero _)
    | succ n =>
    cases m with
    | zero => exact absurd hm (Nat.not_lt_zero _)
    | succ m =>
    have c : x < 0 := Int32.lt_iff_toInt_lt.mpr (by omega)
    rw [g_X6_append_L3_e, g_X12_four_L3_e, if_pos c, if_pos c]
    exact ⟨I, r, U, s, rfl, rfl, hR, by omega⟩
  | succ k ih =>
    intro n m x I r U s hx h4 hn hm hR hl
    cases n with
    | zero => exact absurd hn (Nat.not_lt_zero _)
    | succ n =>
    cases m with
    | zero => exact absurd hm (Nat.not_lt_zero _)
    | succ m =>
    have c : ¬ x < 0 := fun q => by have := Int32.lt_iff_toInt_lt.mp q; omega
    have d : ¬ (300 : Int32) ≤ I 193 := fun q => by have := Int32.le_iff_toInt_le.mp q; omega
    rw [g_X6_append_L3_e, g_X12_four_L3_e, if_neg c, if_neg c]
    try simp only [↓ap1_n]
    rw [if_neg d]
    obtain ⟨⟨l0, l1⟩, e1, e2, e3, e4, e5⟩ := hR
    have hxn : x = nI (8 * k) := by
      have : k = 0 ∨ k = 1 ∨ k = 2 ∨ k = 3 := by omega
      rcases this with e | e | e | e <;> subst e <;> exact Int32.toInt_inj.mp (hx.trans (by decide))
    have hs : (x.toUInt32 &&& Int32.toUInt32 31).toNat = 8 * k := by
      rw [hxn]
      exact (by decide +kernel : ∀ k, k < 4 → ((nI (8 * k)).toUInt32 &&& Int32.toUInt32 31).toNat = 8 * k) k (by omega)
    have hv : (a.toUInt32 >>> (x.toUInt32 &&& Int32.toUInt32 31)).toInt32 &&& 255 = a >>> (x &&& 31) &&& 255 := by
      rw [shr_8 (by omega) a hs, hxn]
    rw [hv, ← e1]
    have hy : (I 193 + 1).toInt = (I 193).toInt + 1 := t1_one (by omega) (by omega)
    have hz : (x + Int32.ofInt (-8)).toInt = 8 * (k : Int) - 8 := (i_add hx k8 (by clear hy; omega) (by clear hy; omega)).trans (by clear hy; omega)
    have hR2 : RDR (va_up I 193 (I 193 + 1)) (va_up r 192 (upd (r 192) (I 193).toNatClampNeg (a >>> (x &&& 31) &&& 255))) (va_up U 388 (I 193 + 1)) (va_up s 387 (upd (s 387) (I 193).toNatClampNeg (a >>> (x &&& 31) &&& 255))) := by
      refine ⟨?_, ?_, ?_, fun j => ?_, ?_, ?_⟩
      · rw [va_up_self, hy]; exact ⟨by omega, by omega⟩
      · rw [va_up_self, va_up_self]
      · rw [va_up_self, va_up_self, e2]
      · rw [va_up_self]
        unfold upd
        split
        · exact nn_255 _
        · exact e3 j
      · rw [va_up_ne _ _ (show (129 : Nat) ≠ 193 by decide), va_up_ne _ _ (show (389 : Nat) ≠ 388 by decide)]; exact e4
      · rw [va_up_ne _ _ (show (130 : Nat) ≠ 193 by decide), va_up_ne _ _ (show (390 : Nat) ≠ 388 by decide)]; exact e5
    generalize I 193 + 1 = y at hy hR2 ⊢
    generalize x + Int32.ofInt (-8) = z at hz ⊢
    have hy2 : (va_up I 193 y 193).toInt = (I 193).toInt + 1 := by rw [va_up_self]; exact hy
    obtain ⟨I1, r1, U1, s1, f1, f2, f3, f4⟩ := ih n m z _ _ _ _ hz (by omega) (by omega) (by omega) hR2 (by rw [hy2]; omega)
    exact ⟨I1, r1, U1, s1, f1, f2, f3, by rw [f4, hy2]; omega⟩
theorem four_v (a : Int32) (h : RDR I ri U si) (hl : (I 193).toInt + 4 ≤ 300) : ∃ (I1 : Nat → Int32) (r1 : Nat → Nat → Int32) (U1 : Nat → Int32) (s1 : Nat → Nat → Int32), g_X6_append a I J ri rj rq = (I1, J, r1, rj, rq) ∧ g_X12_four a U V si sj sq = (U1, V, s1, sj, sq) ∧ RDR I1 r1 U1 s1 ∧ (I1 193).toInt = (I 193).toInt + 4 := by
  rw [g_X6_append_e, g_X12_four_e]
  exact four_L a 4 _ _ 24 I ri U si (by decide) (Nat.le_refl 4) (by decide) (by decide) h hl
theorem feed_FV {a0 a1 a2 a3 a4 : Int32} (h : RDR I ri U si) : FV (g_X11_feed a0 a1 a2 a3 a4 I J ri rj rq) (g_X12_feed a0 a1 a2 a3 a4 U V si sj sq) := by
  have k20 : (20 : Int32).toInt = 20 := by decide
  have k280 : (280 : Int32).toInt = 280 := by decide
  have k300 : (300 : Int32).toInt = 300 := by decide
  have hl := h.1
  have e := h.2.1
  rw [g_X11_feed_e, g_X12_feed_e]
  try simp only [↓ap1_n]
  rw [← e]
  have s20 : (I 193 + 20).toInt = (I 193).toInt + 20 := i_add rfl k20 (by omega) (by omega)
  by_cases c : I 193 ≤ 280
  · have c1 := Int32.le_iff_toInt_le.mp c
    rw [if_pos c, if_pos (Int32.le_iff_toInt_le.mpr (by omega))]
    obtain ⟨I1, r1, U1, s1, f1, g1, h1, n1⟩ := four_v (J := J) (rj := rj) (rq := rq) (V := V) (sj := sj) (sq := sq) a0 h (by omega)
    rw [bv_n f1, bv_n g1]
    obtain ⟨I2, r2, U2, s2, f2, g2, h2, n2⟩ := four_v (J := J) (rj := rj) (rq := rq) (V := V) (sj := sj) (sq := sq) a1 h1 (by omega)
    rw [bv_n f2, bv_n g2]
    obtain ⟨I3, r3, U3, s3, f3, g3, h3, n3⟩ := four_v (J := J) (rj := rj) (rq := rq) (V := V) (sj := sj) (sq := sq) a2 h2 (by omega)
    rw [bv_n f3, bv_n g3]
    obtain ⟨I4, r4, U4, s4, f4, g4, h4, n4⟩ := four_v (J := J) (rj := rj) (rq := rq) (V := V) (sj := sj) (sq := sq) a3 h3 (by omega)
    rw [bv_n f4, bv_n g4]
    obtain ⟨I5, r5, U5, s5, f5, g5, h5, n5⟩ := four_v (J := J) (rj := rj) (rq := rq) (V := V) (sj := sj) (sq := sq) a4 h4 (by omega)
    rw [bv_n f5, bv_n g5]
    exact ⟨h5.2.1, h5⟩
  · rw [if_neg c, if_neg (fun q => c (Int32.le_iff_toInt_le.mpr (by have := Int32.le_iff_toInt_le.mp q; omega)))]
    exact ⟨rfl, h⟩
theorem end_FV {a0 : Int32} (h : RDR I ri U si) : FV (g_X11_end a0 I J ri rj rq) (g_X12_end a0 U V si sj sq) := by
  have h' := h
  obtain ⟨⟨l0, l1⟩, e1, e2, e3, e4, e5⟩ := h'
  rw [g_X11_end_e, g_X12_end_e]
  simp only [↓ap1_n, between_b, isIn_b]
  rw [← e1]
  by_cases c : bt a0 0 (I 193) = 0
  · rw [if_pos c, if_pos c]
    exact ⟨rfl, h⟩
  · rw [if_neg c, if_neg c]
    have b := bt_n c
    have k0 : (0 : Int32).toInt = 0 := by decide
    refine ⟨rfl, ?_, ?_, e2, e3, ?_, ?_⟩
    · show 0 ≤ (va_up I 193 a0 193).toInt ∧ (va_up I 193 a0 193).toInt ≤ 300
      rw [va_up_self]; exact ⟨by omega, by omega⟩
    · show va_up I 193 a0 193 = va_up U 388 a0 388
      rw [va_up_self, va_up_self]
    · show va_up I 193 a0 129 = va_up U 388 a0 389
      rw [va_up_ne _ _ (show (129 : Nat) ≠ 193 by decide), va_up_ne _ _ (show (389 : Nat) ≠ 388 by decide)]; exact e4
    · show va_up I 193 a0 130 = va_up U 388 a0 390
      rw [va_up_ne _ _ (show (130 : Nat) ≠ 193 by decide), va_up_ne _ _ (show (390 : Nat) ≠ 388 by decide)]; exact e5
theorem force_TV {a0 a1 a2 : Int32} (h : TCR I (si 384)) (hc : I 320 = si 384 0) (h0 : 0 ≤ (I 320).toInt) (h7 : 0 ≤ (si 384 7).toInt ∧ (si 384 7).toInt ≤ 30) : TV (g_X11_force a0 a1 a2 I J ri rj rq) (g_X12_force a0 a1 a2 U V si sj sq) := by
  obtain ⟨e6, e7⟩ := h
  have k0 : (0 : Int32).toInt = 0 := by decide
  have k30 : (30 : Int32).toInt = 30 := by decide
  have k599 : (599 : Int32).toInt = 599 := by decide
  have n7 : (7 : Int32).toNatClampNeg = 7 := by decide
  rw [g_X11_force_e, g_X12_force_e]
  simp only [↓ap1_n, between_b, isIn_b, isMonth_c, g_X11_force_K58, g_X11_force_K59_2, g_X11_force_K76_2, g_X12_force_K56, n7]
  rw [← e6, ← hc]
  have no : TV ((-1, I, J, ri, rj, rq) : Int32 × vM) (-1, U, V, si, sj, sq) := ⟨rfl, e6, e7⟩
  by_cases c0 : bt a0 0 (I 96 - 1) = 0
  · rw [if_pos c0, if_pos c0]; exact no
  · rw [if_neg c0, if_neg c0]
    by_cases c1 : bt a1 (I 320) 599 = 0
    · rw [if_pos c1]
      by_cases d1 : bt a1 0 599 = 0
      · rw [if_pos d1]; exact no
      · have b1 := bt_n d1
        rw [if_neg d1]
        by_cases d2 : bt a2 0 599 = 0
        · rw [if_pos d2]; exact no
        · rw [if_neg d2]
          by_cases d3 : a1 < I 320
          · rw [if_pos d3]; exact no
          · exact absurd c1 (by
              have := bt_y (a := a1) (b := I 320) (c := 599) (by
                have : ¬ a1.toInt < (I 320).toInt := fun q => d3 (Int32.lt_iff_toInt_lt.mpr q)
                omega) b1.2
              rw [this]; decide)
    · have b1 := bt_n c1
      rw [if_neg c1, if_neg (show ¬ bt a1 0 599 = 0 by rw [bt_y (a := a1) (b := 0) (c := 599) (by omega) b1.2]; decide)]
      have d3 : ¬ a1 < I 320 := fun q => by have := Int32.lt_iff_toInt_lt.mp q; omega
      by_cases c2 : bt a2 a1 599 = 0
      · rw [if_pos c2]
        by_cases d2 : bt a2 0 599 = 0
        · rw [if_pos d2]; exact no
        · have b2 := bt_n d2
          rw [if_neg d2, if_neg d3]
          by_cases d4 : a2 < a1
          · rw [if_pos d4]; exact no
          · exact absurd c2 (by
              have := bt_y (a := a2) (b := a1) (c := 599) (by
                have : ¬ a2.toInt < a1.toInt := fun q => d4 (Int32.lt_iff_toInt_lt.mpr q)
                omega) b2.2
              rw [this]; decide)
      · have b2 := bt_n c2
        rw [if_neg c2, if_neg (show ¬ bt a2 0 599 = 0 by rw [bt_y (a := a2) (b := 0) (c := 599) (by omega) b2.2]; decide), if_neg d3, if_neg (show ¬ a2 < a1 from fun q => by have := Int32.lt_iff_toInt_lt.mp q; omega)]
        rw [g_X11_force_K59_e]
        try simp only [↓ap1_n]
        by_cases c3 : si 384 7 = 30
        · have c3' := congrArg Int32.toInt c3
          rw [if_pos c3, if_neg (show ¬ I 98 < 30 from fun q => by have := Int32.lt_iff_toInt_lt.mp q; rw [e7] at this; omega)]
          exact no
        · have l3 : (si 384 7).toInt < 30 := by
            have : (si 384 7).toInt ≠ 30 := fun q => c3 (Int32.toInt_inj.mp (q.trans k30.symm))
            omega
          have c4 : I 98 < 30 := Int32.lt_iff_toInt_lt.mpr (by rw [e7]; omega)
          rw [if_neg c3, if_pos c4, g_X3_addForce_e]
          try simp only [↓ap1_n]
          rw [if_pos c4]
          have m1 : ((4 : Int32) * si 384 7).toInt = 4 * (si 384 7).toInt := i_mul (show (4 : Int32).toInt = 4 by decide) rfl (by omega) (by omega)
          have m2 : ((2220 : Int32) + 4 * si 384 7).toInt = 2220 + 4 * (si 384 7).toInt := i_add (show (2220 : Int32).toInt = 2220 by decide) m1 (by omega) (by omega)
          have m3 : ((2220 : Int32) + 4 * si 384 7 + 1).toInt = 2220 + 4 * (si 384 7).toInt + 1 := i_add m2 (show (1 : Int32).toInt = 1 by decide) (by omega) (by omega)
          have m4 : ((2220 : Int32) + 4 * si 384 7 + 2).toInt = 2220 + 4 * (si 384 7).toInt + 2 := i_add m2 (show (2 : Int32).toInt = 2 by decide) (by omega) (by omega)
          have z2 := clampE ((2220 : Int32) + 4 * si 384 7)
          have z3 := clampE ((2220 : Int32) + 4 * si 384 7 + 1)
          have z4 := clampE ((2220 : Int32) + 4 * si 384 7 + 2)
          rw [bn_n rfl]
          refine ⟨?_, ?_, ?_⟩
          · show va_up I 98 (I 98 + 1) 98 - 1 = si 384 7 + 1 - 1
            rw [va_up_self, e7]
          · dsimp only
            rw [va_up_ne _ _ (show (96 : Nat) ≠ 98 by decide), va_up_self, upd_n _ _ (show (6 : Nat) ≠ 7 by decide), va_up_self, upd_n _ _ (by omega), va_up_self, upd_n _ _ (by omega), va_up_self, upd_n _ _ (by omega)]
            exact e6
          · dsimp only
            rw [va_up_self, va_up_self, upd_s, e7]
/-! the tape stands when a TEXT is read -/
theorem rc_f {I : Nat → Int32} {r : Nat → Nat → Int32} : ∃ (I2 : Nat → Int32) (r2 : Nat → Nat → Int32), g_X4_readClause I J r rj rq = (I2, J, r2, rj, rq) ∧ r2 192 = r 192 := by
  have fx : FRG id w_X4_readClause (I, J, r, rj, rq) (g_X4_readClause I J r rj rq) := g_X4_readClause_f
  generalize g_X4_readClause I J r rj rq = A at fx ⊢
  obtain ⟨I2, J2, r2, l2, q2⟩ := A
  have fv : FRV w_X4_readClause (I, J, r, rj, rq) (I2, J2, r2, l2, q2) := fx
  have e1 : J2 = J := fe_J fv
  have e3 : l2 = rj := fe_rj fv
  have e4 : q2 = rq := fe_rq fv
  subst e1 e3 e4
  exact ⟨I2, r2, rfl, fv.2.2.1 192 (by decide)⟩
theorem rr_L : ∀ (N : Nat) (x : Int32) (I : Nat → Int32) (r : Nat → Nat → Int32), (g_X4_read_rest_L42 J rj rq N x I r).2.2.1 192 = r 192 := by
  intro N
  induction N with
  | zero => intro x I r; rfl
  | succ N ih =>
    intro x I r
    rw [g_X4_read_rest_L42_e]
    try simp only [↓ap1_n]
    by_cases c : (300 : Int32) < x
    · rw [if_pos c]
    · rw [if_neg c]
      by_cases d : I 129 = 0
      · rw [if_pos d]
        by_cases g : I 194 = 33
        · rw [if_pos g]
        · rw [if_neg g]
          obtain ⟨I2, r2, e1, e2⟩ := rc_f (J := J) (rj := rj) (rq := rq) (I := I) (r := r)
          rw [bv_n e1]
          obtain ⟨I3, f1, _, _⟩ := adv_f (J := J) (rj := rj) (rq := rq) (I := I2) (r := r2)
          rw [bv_n f1, ih, e2]
      · rw [if_neg d]
theorem rr_192 {I : Nat → Int32} {r : Nat → Nat → Int32} : (g_X4_read_rest I J r rj rq).2.2.1 192 = r 192 := by
  rw [g_X4_read_rest_e]
  try simp only [↓ap1_n]
  rw [g_X6_rewind_e]
  try simp only [↓ap1_n]
  rw [bv_n (show ((va_up (va_up I 132 0) 197 0, J, r, rj, rq) : vM) = (va_up (va_up I 132 0) 197 0, J, r, rj, rq) from rfl)]
  obtain ⟨I3, f1, _, _⟩ := adv_f (J := J) (rj := rj) (rq := rq) (I := va_up (va_up I 132 0) 197 0) (r := r)
  rw [bv_n f1]
  exact rr_L _ _ _ _
/-- text(), where there are 10 -/
theorem text_10 (h : (si 384 6).toInt = 10) : g_X12_text U V si sj sq = (-1, U, V, si, sj, sq) := by
  have n6 : (6 : Int32).toNatClampNeg = 6 := by decide
  rw [g_X12_text_e]
  simp only [↓ap1_n, n6]
  rw [if_pos (Int32.toInt_inj.mp (h.trans (show (10 : Int32).toInt = 10 by decide).symm))]
/-- text() of the reference, out of what reading the class's tape comes to -/
theorem text_v {I0 : Nat → Int32} {J0 : Nat → Int64} {r0 : Nat → Nat → Int32} {l0 : Nat → Nat → Int64} {q0 : Nat → Nat → Option Nat} (h : RDR I ri U si) (h401 : 0 ≤ (U 401).toInt) (h6 : 0 ≤ (si 384 6).toInt ∧ (si 384 6).toInt ≤ 9) (i129 : I0 129 = 0) (i130 : I0 130 = -1) (i256 : I0 256 = 0) (i193 : I0 193 = I 193) (i192 : r0 192 = ri 192) (i258 : r0 258 0 = 0) : ∃ (Iz : Nat → Int32) (rz : Nat → Nat → Int32) (U1 : Nat → Int32) (V1 : Nat → Int64) (s1 : Nat → Nat → Int32), g_X4_read_rest I0 J0 r0 l0 q0 = (Iz, J0, rz, l0, q0) ∧ rz 192 = ri 192 ∧ g_X12_text U V si sj sq = (if Iz 129 = 0 then si 384 6 else -1, U1, V1, s1, sj, sq) ∧ U1 388 = 0 ∧ U1 389 = Iz 129 ∧ U1 390 = Iz 130 ∧ (Iz 129 = 0 → s1 384 6 = si 384 6 + 1) ∧ s1 387 = si 387 ∧ (∀ j, j ≠ 6 → j < 3720 + 900 * (si 384 6).toNatClampNeg → s1 384 j = si 384 j) ∧ (Iz 129 = 0 → ∃ (M : CLs) (w : Nat), s1 384 (3720 + 900 * (si 384 6).toNatClampNeg) = Iz 256 ∧ (Iz 256).toInt = (M.length : Int) ∧ M.length ≤ 20 ∧ CTX rz M ∧ RTX (3720 + 900 * (si 384 6).toNatClampNeg) (s1 384) M w ∧ w ≤ tot M ∧ tot M ≤ 300) := by
  obtain ⟨⟨l0', l1⟩, e1, e2, e3, e4, e5⟩ := h
  have n6 : (6 : Int32).toNatClampNeg = 6 := by decide
  have z1 := clampE (I 193)
  have z6 := clampE (si 384 6)
  have k10 : (10 : Int32).toInt = 10 := by decide
  have hs := text_sim (J := J0) (rj := l0) (rq := q0) (mj := sj) (mq := sq) (n := (I 193).toNatClampNeg) (T := ri 192) (by omega) (fun j _ => e3 j) (I := I0) (r := r0) (by rw [i193]; omega) i192 i129 i256 (I' := U) (J' := V) (r' := si) (by rw [← e1]; omega) e2.symm h401 (t := (si 384 6).toNatClampNeg) (by omega) (by omega) i258
  obtain ⟨f, I1, J1, r1, If, rf, x1, x2, xl, x3⟩ := hs
  have hrow : rf 192 = ri 192 := by
    have := rr_192 (J := J0) (rj := l0) (rq := q0) (I := I0) (r := r0)
    rw [x2] at this
    exact this.trans i192
  have hfr : FRG Prod.snd w_X12_text (U, V, si, sj, sq) (g_X12_text U V si sj sq) := g_X12_text_f
  have g0 : ¬ si 384 6 = 10 := fun q => by have := congrArg Int32.toInt q; omega
  have red : g_X12_text U V si sj sq = if f = 0 then (si 384 6 + 1 - 1, va_up (va_up (va_up I1 389 f) 390 (-1)) 388 0, J1, va_up (va_up r1 384 (upd (r1 384) (I1 396).toNatClampNeg (I1 397))) 384 (upd (va_up r1 384 (upd (r1 384) (I1 396).toNatClampNeg (I1 397)) 384) 6 (si 384 6 + 1)), sj, sq) else (-1, va_up (va_up (va_up I1 389 f) 390 (I1 392)) 388 0, J1, r1, sj, sq) := by
    rw [g_X12_text_e]
    simp only [↓ap1_n, n6]
    rw [if_neg g0, bn_n x1]
    rw [show (va_up I1 389 f) 389 = f from va_up_self _ _ _]
    by_cases c : f = 0
    · rw [if_pos c, if_pos c, va_up_ne _ _ (show (396 : Nat) ≠ 388 by decide), va_up_ne _ _ (show (396 : Nat) ≠ 390 by decide), va_up_ne _ _ (show (396 : Nat) ≠ 389 by decide), va_up_ne _ _ (show (397 : Nat) ≠ 388 by decide), va_up_ne _ _ (show (397 : Nat) ≠ 390 by decide), va_up_ne _ _ (show (397 : Nat) ≠ 389 by decide)]
    · rw [if_neg c, if_neg c, va_up_ne _ _ (show (392 : Nat) ≠ 389 by decide)]
  have hu : si 384 6 + 1 - 1 = si 384 6 := by first | exact Int32.add_sub_cancel _ _ | exact Int32.add_sub_cancel | (apply Int32.toBitVec_inj.mp; simp)
  rcases x3 with ⟨y, y1, y2⟩ | ⟨y, y1, y2, y3, y4, M, w, m1, m2, m3, m4, m5, m6⟩
  · rw [if_neg y] at red
    rw [red] at hfr
    refine ⟨If, rf, va_up (va_up (va_up I1 389 f) 390 (I1 392)) 388 0, J1, r1, x2, hrow, ?_, ?_, ?_, ?_, fun q => absurd (y1.symm.trans q) y, ?_, fun j _ hj => xl j (by omega), fun q => absurd (y1.symm.trans q) y⟩
    · rw [red, y1, if_neg y]
    · exact va_up_self _ _ _
    · rw [va_up_ne _ _ (show (389 : Nat) ≠ 388 by decide), va_up_ne _ _ (show (389 : Nat) ≠ 390 by decide), va_up_self]
      exact y1.symm
    · rw [va_up_ne _ _ (show (390 : Nat) ≠ 388 by decide), va_up_self]
      exact y2.symm
    · exact hfr.2.2.1 387 (by decide)
  · subst y
    rw [if_pos rfl, hu] at red
    rw [red] at hfr
    have st : ∀ j, j ≠ 6 → j ≠ 3720 + 900 * (si 384 6).toNatClampNeg → va_up (va_up r1 384 (upd (r1 384) (I1 396).toNatClampNeg (I1 397))) 384 (upd (va_up r1 384 (upd (r1 384) (I1 396).toNatClampNeg (I1 397)) 384) 6 (si 384 6 + 1)) 384 j = r1 384 j := fun j h1 h2 => by
      rw [va_up_self, upd_n _ _ h1, va_up_self, at_n y4, upd_n _ _ h2]
    refine ⟨If, rf, va_up (va_up (va_up I1 389 0) 390 (-1)) 388 0, J1, va_up (va_up r1 384 (upd (r1 384) (I1 396).toNatClampNeg (I1 397))) 384 (upd (va_up r1 384 (upd (r1 384) (I1 396).toNatClampNeg (I1 397)) 384) 6 (si 384 6 + 1)), x2, hrow, ?_, ?_, ?_, ?_, fun _ => ?_, ?_, fun j h1 h2 => (st j h1 (by omega)).trans (xl j (by omega)), fun _ => ⟨M, w, ?_, by rw [y3]; exact m1, m2, m3, RTX_cg M w m4 m2 (fun j h1 h2 => st j (by omega) (by omega)) (fun j h1 h2 => st j (by omega) (by omega)), m5, m6⟩⟩
    · rw [red, y1, if_pos rfl]
    · exact va_up_self _ _ _
    · rw [va_up_ne _ _ (show (389 : Nat) ≠ 388 by decide), va_up_ne _ _ (show (389 : Nat) ≠ 390 by decide), va_up_self]
      exact y1.symm
    · rw [va_up_ne _ _ (show (390 : Nat) ≠ 388 by decide), va_up_self, y2, i130]
    · rw [va_up_self, upd_s]
    · exact hfr.2.2.1 387 (by decide)
    · rw [va_up_self, upd_n _ _ (by omega), va_up_self, at_n y4, upd_s]
      exact y3.symm
end PT0
/-! ===== pure: numbers by THE LAW, both sides (behind pt0) ===== -/
section PX
variable {I : Nat → Int32} {J : Nat → Int64} {ri : Nat → Nat → Int32} {rj : Nat → Nat → Int64} {rq : Nat → Nat → Option Nat}
variable {U : Nat → Int32} {V : Nat → Int64} {si : Nat → Nat → Int32} {sj : Nat → Nat → Int64} {sq : Nat → Nat → Option Nat}
variable {tI : Nat → Nat → Int32} {tR : Nat → Nat → Nat → Int32}
/-- one TEXT: the class's object w, the reference's number t -/
def TEX1 (tI : Nat → Nat → Int32) (tR : Nat → Nat → Nat → Int32) (A : Nat → Int32) (w t : Nat) (M : CLs) : Prop := (tI 256 w).toInt = (M.length : Int) ∧ A (3720 + 900 * t) = tI 256 w ∧ M.length ≤ 20 ∧ CTX (fun q i => tR q w i) M ∧ ∃ u : Nat, RTX (3720 + 900 * t) A M u ∧ u ≤ tot M ∧ tot M ≤ 300
/-- all TEXTS, all FORCES -/
def TXS (I : Nat → Int32) (rq : Nat → Nat → Option Nat) (tI : Nat → Nat → Int32) (tR : Nat → Nat → Nat → Int32) (A : Nat → Int32) : Prop := I 96 = A 6 ∧ (0 ≤ (A 6).toInt ∧ (A 6).toInt ≤ 10) ∧ ∀ t : Nat, (t : Int) < (A 6).toInt → ∃ (w : Nat) (M : CLs), rq 97 t = some w ∧ TEX1 tI tR A w t M
def FCS (I : Nat → Int32) (ri : Nat → Nat → Int32) (A : Nat → Int32) : Prop := I 98 = A 7 ∧ (0 ≤ (A 7).toInt ∧ (A 7).toInt ≤ 30) ∧ ∀ f : Nat, (f : Int) < (A 7).toInt → ri 99 f = A (2220 + 4 * f) ∧ ri 100 f = A (2220 + 4 * f + 1) ∧ ri 101 f = A (2220 + 4 * f + 2) ∧ 0 ≤ (A (2220 + 4 * f)).toInt ∧ (A (2220 + 4 * f)).toInt < (A 6).toInt
theorem sr_inj {a c : Int32} (h0 : 0 ≤ a.toInt) (h8 : a.toInt ≤ 8) : srC c = srC a ↔ c = a := by
  constructor
  · intro h
    have y := (sr_v h0 h8).2
    by_cases d : 0 ≤ c.toInt ∧ c.toInt ≤ 8
    · have x := (sr_v d.1 d.2).2
      rw [h] at x
      exact Int32.toInt_inj.mp (by omega)
    · have z : srC c = 0 := by
        by_cases e : 8 < c.toInt
        · exact sr_0 e
        · have k : ∀ x : Int32, 0 ≤ x.toInt → ¬ c = x := fun x y z => by
            have := congrArg Int32.toInt z
            omega
          unfold srC
          rw [if_neg (k 0 (by decide)), if_neg (k 1 (by decide)), if_neg (k 2 (by decide)), if_neg (k 3 (by decide)), if_neg (k 4 (by decide)), if_neg (k 5 (by decide)), if_neg (k 6 (by decide)), if_neg (k 7 (by decide)), if_neg (k 8 (by decide))]
      rw [← h, z, show (0 : Int32).toInt = 0 by decide] at y
      omega
  · intro h; rw [h]
theorem ctx_tot {r : Nat → Nat → Int32} : ∀ M : CLs, CTX r M → (r 258 M.length).toInt = (tot M : Int)
  | [], h => h
  | _ :: _, h => h.2.2.1
theorem cl_at {r : Nat → Nat → Int32} {W : Nat} {A : Nat → Int32} : ∀ (M : CLs) (w : Nat), CTX r M → RTX W A M w → ∀ i, i < M.length → ∃ c : Int32, r 257 i = c ∧ A (W + 1 + 12 * i) = srC c ∧ (6 ≤ c.toInt → r 259 (r 258 i).toNatClampNeg = A (W + 1 + 12 * i + 1))
  | [], _, _, _, _, h => absurd h (Nat.not_lt_zero _)
  | x :: M, w, hC, hR, i, h => by
    obtain ⟨c1, c2, c3, c4⟩ := hC
    obtain ⟨r1, r2⟩ := hR
    have hl : (x :: M).length = M.length + 1 := rfl
    by_cases q : i = M.length
    · subst q
      refine ⟨x.1, c2, r1, fun h6 => ?_⟩
      rcases r2 with ⟨b0, _⟩ | ⟨b0, _⟩ | ⟨_, _, y, e1, e2⟩
      · omega
      · omega
      · rw [e2, at_n (ctx_tot M c1)]
        exact c4 0 y (by rw [e1]; rfl)
    · have hR' : ∃ w', RTX W A M w' := by
        rcases r2 with ⟨_, _, w0, b1, _⟩ | ⟨_, _, b1, _⟩ | ⟨_, b1, _⟩
        · exact ⟨w0, b1⟩
        · exact ⟨w, b1⟩
        · exact ⟨w, b1⟩
      obtain ⟨w', hR'⟩ := hR'
      exact cl_at M w' c1 hR' i (by omega)
theorem cof_v {t0 : Int32} {t : Nat} (ht : t0.toInt = (t : Int)) (h9 : t ≤ 10) : g_X12_clausesOf t0 U V si sj sq = (si 384 (3720 + 900 * t), U, V, si, sj, sq) := by
  rw [g_X12_clausesOf_e]
  try simp only [↓ap1_n]
  have m1 := i_mul (show (900 : Int32).toInt = 900 by decide) ht (by omega) (by omega)
  have m2 := i_add (show (3720 : Int32).toInt = 3720 by decide) m1 (by omega) (by omega)
  rw [at_n (p := 3720 + 900 * t) (m2.trans (by omega))]
theorem cat_v {t0 x : Int32} {t j : Nat} (ht : t0.toInt = (t : Int)) (h9 : t ≤ 10) (hx : x.toInt = (j : Int)) (hj : j ≤ 100) : ∃ y : Int32, g_X12_clauseAt t0 x U V si sj sq = (y, U, V, si, sj, sq) ∧ y.toInt = ((3720 + 900 * t + 1 + 12 * j : Nat) : Int) := by
  rw [g_X12_clauseAt_e]
  try simp only [↓ap1_n]
  have m1 := i_mul (show (900 : Int32).toInt = 900 by decide) ht (by omega) (by omega)
  have m2 := i_add (show (3720 : Int32).toInt = 3720 by decide) m1 (by omega) (by omega)
  have m3 := i_add m2 (show (1 : Int32).toInt = 1 by decide) (by omega) (by omega)
  have m4 := i_mul (show (12 : Int32).toInt = 12 by decide) hx (by omega) (by omega)
  have m5 := i_add m3 m4 (by omega) (by omega)
  exact ⟨_, rfl, m5.trans (by omega)⟩
/-- the first CLAUSE of a sort, both sides -/
theorem fo_sim {a t0 : Int32} {w t k : Nat} (hk : (tI 256 w).toInt = (k : Int)) (hA : si 384 (3720 + 900 * t) = tI 256 w) (hk2 : k ≤ 20) (ht : t0.toInt = (t : Int)) (h9 : t ≤ 10) (hs : ∀ i, i < k → (si 384 (3720 + 900 * t + 1 + 12 * i) = srC a ↔ tR 257 w i = a)) : ∀ (m : Nat) (x : Int32) (j : Nat), x.toInt = (j : Int) → j ≤ k → k - j < m → ∃ y1 y2 : Int32, g_X8_firstOf_L2 w a I J ri rj rq tI tR m x = (y1, I, J, ri, rj, rq) ∧ g_X12_firstOf_L2 t0 (srC a) U V si sj sq m x = (y2, U, V, si, sj, sq) ∧ ((y1 = -1 ∧ y2 = -1 ∧ ∀ i, j ≤ i → i < k → tR 257 w i ≠ a) ∨ ∃ i, i < k ∧ y1.toInt = (i : Int) ∧ y2.toInt = ((3720 + 900 * t + 1 + 12 * i : Nat) : Int) ∧ tR 257 w i = a) := by
  intro m
  induction m with
  | zero => intro _ _ _ _ h; exact absurd h (Nat.not_lt_zero _)
  | succ m ih =>
    intro x j hx hj hm
    rw [g_X8_firstOf_L2_e, g_X12_firstOf_L2_e]
    try simp only [↓ap1_n]
    rw [bn_n (cof_v ht h9), hA]
    by_cases q : tI 256 w ≤ x
    · have q1 := (le_n hk hx).mp q
      rw [if_pos q, if_pos q]
      exact ⟨-1, -1, rfl, rfl, Or.inl ⟨rfl, rfl, fun i h1 h2 => absurd h2 (by omega)⟩⟩
    · have q1 : ¬ k ≤ j := fun y => q ((le_n hk hx).mpr y)
      obtain ⟨y, e1, e2⟩ := cat_v (U := U) (V := V) (si := si) (sj := sj) (sq := sq) ht h9 hx (by omega)
      rw [if_neg q, if_neg q, bn_n e1, bn_n e1, at_n e2, at_n hx]
      by_cases c : tR 257 w j = a
      · rw [if_pos c, if_pos ((hs j (by omega)).mpr c)]
        exact ⟨x, y, rfl, rfl, Or.inr ⟨j, by omega, hx, e2, c⟩⟩
      · rw [if_neg c, if_neg (fun z => c ((hs j (by omega)).mp z))]
        obtain ⟨y1, y2, f1, f2, f3⟩ := ih (x + Int32.ofInt 1) (j + 1) (up_i hx (by omega)) (by omega) (by omega)
        refine ⟨y1, y2, f1, f2, ?_⟩
        rcases f3 with ⟨g1, g2, g3⟩ | g
        · exact Or.inl ⟨g1, g2, fun i h1 h2 => by
            by_cases z : i = j
            · rw [z]; exact c
            · exact g3 i (by omega) h2⟩
        · exact Or.inr g
theorem dn_i {x : Int32} (h0 : 0 ≤ x.toInt) (h1 : x.toInt ≤ 1000) : (x + Int32.ofInt (-1)).toInt = x.toInt + -1 := i_add rfl (show (Int32.ofInt (-1)).toInt = -1 by decide) (by omega) (by omega)
theorem opt1_s {β : Type} {w : Nat} {b : β} {k : Nat → β} : opt1 (some w) b k = k w := of_eq_true (eq_self (k w))
theorem opt1_0 {β : Type} {b : β} {k : Nat → β} : opt1 none b k = b := of_eq_true (eq_self b)
theorem bt_lo {a b c : Int32} (h : a < b) : bt a b c = 0 := if_pos h
theorem bt_hi {a b c : Int32} (h1 : ¬ a < b) (h : c < a) : bt a b c = 0 := (if_neg h1).trans (if_pos h)
theorem TEX1_s {A : Nat → Int32} {w t : Nat} {M : CLs} {a : Int32} (h : TEX1 tI tR A w t M) (h0 : 0 ≤ a.toInt) (h8 : a.toInt ≤ 8) : ∀ i, i < M.length → (A (3720 + 900 * t + 1 + 12 * i) = srC a ↔ tR 257 w i = a) := fun i hi => by
  obtain ⟨_, _, _, h4, u, h5, _⟩ := h
  obtain ⟨c, c1, c2, _⟩ := cl_at M u h4 h5 i hi
  have c1' : tR 257 w i = c := c1
  rw [c2, c1']
  exact sr_inj h0 h8
/-- THE TEXT for a sort in a MONTH, both sides -/
theorem tf_sim {a mo : Int32} (h0 : 0 ≤ a.toInt) (h8 : a.toInt ≤ 8) (hT : TXS I rq tI tR (si 384)) (hF : FCS I ri (si 384)) : ∀ (m : Nat) (x : Int32), -1 ≤ x.toInt → x.toInt < (si 384 7).toInt → (x.toInt + 1).toNat < m → ∃ (o : Option Nat) (y : Int32), g_X3_textFor_L7 a mo I J ri rj rq tI tR m x = (o, I, J, ri, rj, rq) ∧ g_X12_textFor_L10 (srC a) mo U V si sj sq m x = (y, U, V, si, sj, sq) ∧ ((o = none ∧ y = -1) ∨ ∃ (w t : Nat) (M : CLs), o = some w ∧ y.toInt = (t : Int) ∧ t ≤ 9 ∧ TEX1 tI tR (si 384) w t M ∧ ∃ i, i < M.length ∧ tR 257 w i = a) := by
  obtain ⟨_, ⟨t1, t2⟩, t3⟩ := hT
  obtain ⟨_, ⟨f1, f2⟩, f3⟩ := hF
  have k0 : (0 : Int32).toInt = 0 := by decide
  have km : (-1 : Int32).toInt = -1 := by decide
  intro m
  induction m with
  | zero => intro x _ _ h; exact absurd h (Nat.not_lt_zero _)
  | succ m ih =>
    intro x h1 h2 h3
    rw [g_X3_textFor_L7_e, g_X12_textFor_L10_e]
    try simp only [↓ap1_n, isIn_b, g_X3_textFor_K62, g_X12_textFor_K71]
    by_cases q : x < 0
    · rw [if_pos q, if_pos q]
      exact ⟨none, -1, rfl, rfl, Or.inl ⟨rfl, rfl⟩⟩
    · have q0 : 0 ≤ x.toInt := by
        have z : ¬ x.toInt < (0 : Int32).toInt := fun z => q (Int32.lt_iff_toInt_lt.mpr z)
        rw [k0] at z
        omega
      rw [if_neg q, if_neg q]
      have dn := dn_i q0 (by omega)
      generalize x + Int32.ofInt (-1) = z at dn ⊢
      have nx := ih z (by omega) (by omega) (by omega)
      clear dn
      obtain ⟨f, hf⟩ : ∃ f : Nat, x.toInt = (f : Int) := ⟨x.toInt.toNat, by omega⟩
      obtain ⟨e1, e2, e3, e4, e5⟩ := f3 f (by omega)
      have m1 := i_mul (show (4 : Int32).toInt = 4 by decide) hf (by omega) (by omega)
      have m2 := i_add (show (2220 : Int32).toInt = 2220 by decide) m1 (by omega) (by omega)
      have m3 := i_add m2 (show (1 : Int32).toInt = 1 by decide) (by omega) (by omega)
      have m4 := i_add m2 (show (2 : Int32).toInt = 2 by decide) (by omega) (by omega)
      rw [at_n hf, at_n (p := 2220 + 4 * f) (m2.trans (by omega)), at_n (p := 2220 + 4 * f + 1) (m3.trans (by omega)), at_n (p := 2220 + 4 * f + 2) (m4.trans (by omega)), e1, e2, e3]
      clear m1 m2 m3 m4
      by_cases c1 : mo < si 384 (2220 + 4 * f + 1)
      · rw [if_pos c1, bt_lo c1, if_pos rfl]
        exact nx
      · rw [if_neg c1]
        by_cases c2 : si 384 (2220 + 4 * f + 2) < mo
        · rw [if_pos c2, bt_hi c1 c2, if_pos rfl]
          exact nx
        · have b1 : bt mo (si 384 (2220 + 4 * f + 1)) (si 384 (2220 + 4 * f + 2)) = 1 := (if_neg c1).trans (if_neg c2)
          rw [if_neg c2, b1, if_neg (show ¬ (1 : Int32) = 0 by decide)]
          obtain ⟨t, ht⟩ : ∃ t : Nat, (si 384 (2220 + 4 * f)).toInt = (t : Int) := ⟨(si 384 (2220 + 4 * f)).toInt.toNat, by omega⟩
          obtain ⟨w, M, w1, w2⟩ := t3 t (by omega)
          rw [at_n ht, w1, opt1_s, g_X8_firstOf_e, g_X12_firstOf_e]
          have w2' := w2
          obtain ⟨p1, p2, p3, p4⟩ := w2'
          obtain ⟨y1, y2, g1, g2, g3⟩ := fo_sim (I := I) (J := J) (ri := ri) (rj := rj) (rq := rq) (U := U) (V := V) (si := si) (sj := sj) (sq := sq) (tI := tI) (tR := tR) (a := a) p1 p2 p3 ht (by omega) (TEX1_s w2 h0 h8) ((20 - (0 : Int32).toInt).toNat + 1) 0 0 k0 (Nat.zero_le _) (by rw [k0]; omega)
          rw [bn_n g1, bn_n g2]
          rcases g3 with ⟨z1, z2, _⟩ | ⟨i, z1, z2, z3, z4⟩
          · rw [if_pos z1, if_pos (show y2 < 0 by rw [z2]; decide)]
            exact nx
          · rw [if_neg (show ¬ y1 = -1 from fun v => by rw [v, km] at z2; omega), if_neg (show ¬ y2 < 0 from fun v => by have := Int32.lt_iff_toInt_lt.mp v; rw [k0, z3] at this; omega)]
            exact ⟨some w, _, rfl, rfl, Or.inr ⟨w, t, M, rfl, ht, by omega, w2, i, z1, z4⟩⟩
/-- a number by THE TEXT -/
theorem num_in {a mo d : Int32} (h6 : 6 ≤ a.toInt) (h8 : a.toInt ≤ 8) (hT : TXS I rq tI tR (si 384)) (hF : FCS I ri (si 384)) : ∃ y : Int32, g_X3_numberIn tI tR a mo d I J ri rj rq = (y, I, J, ri, rj, rq) ∧ g_X12_numberOf (srC a) mo d U V si sj sq = (y, U, V, si, sj, sq) := by
  have k0 : (0 : Int32).toInt = 0 := by decide
  have km : (-1 : Int32).toInt = -1 := by decide
  have n7 : (7 : Int32).toNatClampNeg = 7 := by decide
  have hT' := hT
  have hF' := hF
  obtain ⟨_, ⟨t1, t2⟩, _⟩ := hT'
  obtain ⟨f0, ⟨f1, f2⟩, _⟩ := hF'
  rw [g_X3_numberIn_e, g_X12_numberOf_e, g_X3_textFor_e, g_X12_textFor_e]
  simp only [↓ap1_n, n7]
  rw [f0]
  have hx : (si 384 7 - 1).toInt = (si 384 7).toInt - 1 := i_sub rfl (show (1 : Int32).toInt = 1 by decide) (by omega) (by omega)
  obtain ⟨o, y, e1, e2, e3⟩ := tf_sim (I := I) (J := J) (ri := ri) (rj := rj) (rq := rq) (U := U) (V := V) (si := si) (sj := sj) (sq := sq) (tI := tI) (tR := tR) (a := a) (mo := mo) (by omega) h8 hT hF (((si 384 7 - 1).toInt - (-1)).toNat + 1) (si 384 7 - 1) (by rw [hx]; omega) (by rw [hx]; omega) (by rw [hx]; omega)
  rw [bn_n e1, bn_n e2]
  rcases e3 with ⟨z1, z2⟩ | ⟨w, t, M, z1, z2, z3, z4, i0, z5, z6⟩
  · rw [z1, opt1_0, if_neg (show ¬ (0 : Int32) ≤ y by rw [z2]; decide)]
    exact ⟨d, rfl, rfl⟩
  · rw [z1, opt1_s, if_pos (show (0 : Int32) ≤ y from Int32.le_iff_toInt_le.mpr (by rw [k0, z2]; omega)), g_X8_numberOf_e, g_X8_firstOf_e, g_X12_firstOf_e]
    try simp only [↓ap1_n]
    have z4' := z4
    obtain ⟨p1, p2, p3, p4, u, p5, _⟩ := z4'
    obtain ⟨y1, y2, g1, g2, g3⟩ := fo_sim (I := I) (J := J) (ri := ri) (rj := rj) (rq := rq) (U := U) (V := V) (si := si) (sj := sj) (sq := sq) (tI := tI) (tR := tR) (a := a) p1 p2 p3 z2 (by omega) (TEX1_s z4 (by omega) h8) ((20 - (0 : Int32).toInt).toNat + 1) 0 0 k0 (Nat.zero_le _) (by rw [k0]; omega)
    rw [bn_n g1, bn_n g2]
    rcases g3 with ⟨_, _, v3⟩ | ⟨i, v1, v2, v3, v4⟩
    · exact absurd z6 (v3 i0 (Nat.zero_le _) z5)
    · obtain ⟨c, c1, _, c3⟩ := cl_at M u p4 p5 i v1
      have c1' : tR 257 w i = c := c1
      have hc : c = a := c1'.symm.trans v4
      have c4 : tR 259 w (tR 258 w i).toNatClampNeg = si 384 (3720 + 900 * t + 1 + 12 * i + 1) := c3 (by rw [hc]; exact h6)
      have m1 := i_add v3 (show (1 : Int32).toInt = 1 by decide) (by omega) (by omega)
      rw [if_neg (show ¬ y1 = -1 from fun z => by rw [z, km] at v2; omega), bn_n rfl, at_n v2, c4, at_n (p := 3720 + 900 * t + 1 + 12 * i + 1) (m1.trans (by omega))]
      exact ⟨_, rfl, rfl⟩
end PX
/-! ===== pure: what keeps TEXTS and FORCES alike (behind px) ===== -/
section PX2
variable {I I' : Nat → Int32} {J : Nat → Int64} {ri ri' : Nat → Nat → Int32} {rj : Nat → Nat → Int64} {rq rq' : Nat → Nat → Option Nat}
variable {U : Nat → Int32} {V : Nat → Int64} {si : Nat → Nat → Int32} {sj : Nat → Nat → Int64} {sq : Nat → Nat → Option Nat}
variable {tI tI' : Nat → Nat → Int32} {tR tR' : Nat → Nat → Nat → Int32} {A A' : Nat → Int32}
abbrev lzt : List Nat := [6, 900, 910, 911, 912, 913, 914, 915, 916, 917, 918, 919, 920, 921, 930, 931]
abbrev lzf : List Nat := [7, 600, 601, 602, 603]
theorem zn_x1 {t j : Nat} (ht : t < 10) (h1 : 3720 + 900 * t + 1 ≤ j) (h2 : j < 3720 + 900 * t + 241) : zn j ∈ lzt := by
  have e : zn j = 910 + (j - (3721 + 900 * t)) % 12 := zn_tc (t := t) (c := (j - (3721 + 900 * t)) / 12) (by omega) ht (by omega) (by omega)
  rw [e]
  exact (by decide : ∀ k, k < 12 → 910 + k ∈ lzt) _ (by omega)
theorem zn_x2 {t j : Nat} (ht : t < 10) (h1 : 3720 + 900 * t + 250 ≤ j) (h2 : j < 3720 + 900 * t + 900) : zn j ∈ lzt := by
  have e : zn j = 930 + (j - (3970 + 900 * t)) % 2 := zn_tk (t := t) (c := (j - (3970 + 900 * t)) / 2) (by omega) ht (by omega) (by omega)
  rw [e]
  exact (by decide : ∀ k, k < 2 → 930 + k ∈ lzt) _ (by omega)
theorem zn_x0 {t : Nat} (ht : t < 10) : zn (3720 + 900 * t) ∈ lzt := by
  rw [zn_t0 (t := t) rfl ht]
  decide
theorem zn_fx {i : Nat} (h1 : 2220 ≤ i) (h2 : i < 2340) : zn i ∈ lzf := by
  have e : zn i = 600 + (i - 2220) % 4 := zn_FORCE (c := (i - 2220) / 4) (by omega) (by omega) (by omega)
  rw [e]
  exact (by decide : ∀ k, k < 4 → 600 + k ∈ lzf) _ (by omega)
/-- TEXTS that stand -/
theorem TXo {x : Int} (h : ∀ t : Nat, (t : Int) < x → ∃ (w : Nat) (M : CLs), rq 97 t = some w ∧ TEX1 tI tR A w t M) (hx : x ≤ 10) (hq : ∀ t : Nat, (t : Int) < x → rq' 97 t = rq 97 t) (hI : ∀ t w : Nat, (t : Int) < x → rq 97 t = some w → tI' 256 w = tI 256 w ∧ ∀ u, u ∈ [257, 258, 259] → tR' u w = tR u w) (hC : ∀ t j : Nat, (t : Int) < x → 3720 + 900 * t ≤ j → j < 3720 + 900 * t + 900 → zn j ∈ lzt → A' j = A j) : ∀ t : Nat, (t : Int) < x → ∃ (w : Nat) (M : CLs), rq' 97 t = some w ∧ TEX1 tI' tR' A' w t M := fun t ht => by
  obtain ⟨w, M, e, a1, a2, a3, a4, u, a5, a6, a7⟩ := h t ht
  obtain ⟨i1, i2⟩ := hI t w ht e
  have t10 : t < 10 := by omega
  refine ⟨w, M, (hq t ht).trans e, by rw [i1]; exact a1, ?_, a3, ?_, u, ?_, a6, a7⟩
  · rw [hC t _ ht (Nat.le_refl _) (by omega) (zn_x0 t10), i1]
    exact a2
  · exact CTX_cg (r := fun q i => tR q w i) (r' := fun q i => tR' q w i) M a4 (fun j _ => congrFun (i2 257 (by decide)) j) (fun j _ => congrFun (i2 258 (by decide)) j) (fun j _ => congrFun (i2 259 (by decide)) j)
  · exact RTX_cg M u a5 a3 (fun j h1 h2 => hC t j ht (by omega) (by omega) (zn_x1 t10 h1 (by omega))) (fun j h1 h2 => hC t j ht (by omega) (by omega) (zn_x2 t10 h1 (by omega)))
theorem TXS_cg (h : TXS I rq tI tR A) (h96 : I' 96 = I 96) (hq : ∀ t, t < 10 → rq' 97 t = rq 97 t) (hI : ∀ t w : Nat, t < 10 → rq 97 t = some w → tI' 256 w = tI 256 w ∧ ∀ u, u ∈ [257, 258, 259] → tR' u w = tR u w) (hA : ∀ j, zn j ∈ lzt → A' j = A j) : TXS I' rq' tI' tR' A' := by
  obtain ⟨e, ⟨b0, b1⟩, h⟩ := h
  have e6 := hA 6 (by decide)
  refine ⟨by rw [h96, e6]; exact e, by rw [e6]; exact ⟨b0, b1⟩, ?_⟩
  rw [e6]
  exact TXo h b1 (fun t ht => hq t (by omega)) (fun t w ht => hI t w (by omega)) (fun t j _ _ _ hz => hA j hz)
theorem FCS_cg (h : FCS I ri A) (h98 : I' 98 = I 98) (hR : ∀ t, t ∈ [99, 100, 101] → ∀ j, j < 30 → ri' t j = ri t j) (h7 : A' 7 = A 7) (hC : ∀ i, 2220 ≤ i → i < 2340 → A' i = A i) (h6 : (A 6).toInt ≤ (A' 6).toInt) : FCS I' ri' A' := by
  obtain ⟨e, ⟨b0, b1⟩, h⟩ := h
  refine ⟨by rw [h98, h7]; exact e, by rw [h7]; exact ⟨b0, b1⟩, ?_⟩
  rw [h7]
  intro f hf
  obtain ⟨c1, c2, c3, c4, c5⟩ := h f hf
  have f30 : f < 30 := by omega
  rw [hR 99 (by decide) f f30, hR 100 (by decide) f f30, hR 101 (by decide) f f30, hC (2220 + 4 * f) (by omega) (by omega), hC (2220 + 4 * f + 1) (by omega) (by omega), hC (2220 + 4 * f + 2) (by omega) (by omega)]
  exact ⟨c1, c2, c3, c4, by omega⟩
/-- a FORCE more -/
theorem FCS_more (h : FCS I ri A) {n : Nat} (hn : (A 7).toInt = (n : Int)) (h30 : n < 30) {a0 a1 a2 : Int32} (h0 : 0 ≤ a0.toInt) (h6 : a0.toInt < (A 6).toInt) (e98 : I' 98 = A 7 + 1) (g7 : A' 7 = A 7 + 1) (g6 : A' 6 = A 6) (r0 : ri' 99 = upd (ri 99) n a0) (r1 : ri' 100 = upd (ri 100) n a1) (r2 : ri' 101 = upd (ri 101) n a2) (c0 : A' (2220 + 4 * n) = a0) (c1 : A' (2220 + 4 * n + 1) = a1) (c2 : A' (2220 + 4 * n + 2) = a2) (co : ∀ i, 2220 ≤ i → i < 2220 + 4 * n → A' i = A i) : FCS I' ri' A' := by
  obtain ⟨e, ⟨b0, b1⟩, h⟩ := h
  have s : (A 7 + 1).toInt = (A 7).toInt + 1 := i_add rfl (show (1 : Int32).toInt = 1 by decide) (by omega) (by omega)
  refine ⟨by rw [e98, g7], by rw [g7, s]; exact ⟨by omega, by omega⟩, fun f hf => ?_⟩
  rw [g7, s] at hf
  by_cases q : f = n
  · subst q
    rw [r0, r1, r2, upd_s, upd_s, upd_s, c0, c1, c2, g6]
    exact ⟨rfl, rfl, rfl, h0, h6⟩
  · obtain ⟨d1, d2, d3, d4, d5⟩ := h f (by omega)
    rw [r0, r1, r2, upd_n _ _ q, upd_n _ _ q, upd_n _ _ q, co (2220 + 4 * f) (by omega) (by omega), co (2220 + 4 * f + 1) (by omega) (by omega), co (2220 + 4 * f + 2) (by omega) (by omega), g6]
    exact ⟨d1, d2, d3, d4, d5⟩
def FX7 (b c : Int32 × vM) : Prop := FCS b.2.1 b.2.2.2.1 (c.2.2.2.1 384)
theorem force_FX {a0 a1 a2 : Int32} (h : FCS I ri (si 384)) (e6 : I 96 = si 384 6) (hb : 0 ≤ (si 384 6).toInt ∧ (si 384 6).toInt ≤ 10) (hc : I 320 = si 384 0) (h0 : 0 ≤ (I 320).toInt) : FX7 (g_X11_force a0 a1 a2 I J ri rj rq) (g_X12_force a0 a1 a2 U V si sj sq) := by
  have h' := h
  obtain ⟨e7, ⟨h70, h71⟩, _⟩ := h'
  have k0 : (0 : Int32).toInt = 0 := by decide
  have k30 : (30 : Int32).toInt = 30 := by decide
  have k599 : (599 : Int32).toInt = 599 := by decide
  have n7 : (7 : Int32).toNatClampNeg = 7 := by decide
  rw [g_X11_force_e, g_X12_force_e]
  simp only [↓ap1_n, between_b, isIn_b, isMonth_c, g_X11_force_K58, g_X11_force_K59_2, g_X11_force_K76_2, g_X12_force_K56, n7]
  rw [← e6, ← hc]
  have no : FX7 ((-1, I, J, ri, rj, rq) : Int32 × vM) (-1, U, V, si, sj, sq) := h
  by_cases c0 : bt a0 0 (I 96 - 1) = 0
  · rw [if_pos c0, if_pos c0]; exact no
  · rw [if_neg c0, if_neg c0]
    by_cases c1 : bt a1 (I 320) 599 = 0
    · rw [if_pos c1]
      by_cases d1 : bt a1 0 599 = 0
      · rw [if_pos d1]; exact no
      · have b1 := bt_n d1
        rw [if_neg d1]
        by_cases d2 : bt a2 0 599 = 0
        · rw [if_pos d2]; exact no
        · rw [if_neg d2]
          by_cases d3 : a1 < I 320
          · rw [if_pos d3]; exact no
          · exact absurd c1 (by
              have := bt_y (a := a1) (b := I 320) (c := 599) (by
                have : ¬ a1.toInt < (I 320).toInt := fun q => d3 (Int32.lt_iff_toInt_lt.mpr q)
                omega) b1.2
              rw [this]; decide)
    · have b1 := bt_n c1
      rw [if_neg c1, if_neg (show ¬ bt a1 0 599 = 0 by rw [bt_y (a := a1) (b := 0) (c := 599) (by omega) b1.2]; decide)]
      have d3 : ¬ a1 < I 320 := fun q => by have := Int32.lt_iff_toInt_lt.mp q; omega
      by_cases c2 : bt a2 a1 599 = 0
      · rw [if_pos c2]
        by_cases d2 : bt a2 0 599 = 0
        · rw [if_pos d2]; exact no
        · have b2 := bt_n d2
          rw [if_neg d2, if_neg d3]
          by_cases d4 : a2 < a1
          · rw [if_pos d4]; exact no
          · exact absurd c2 (by
              have := bt_y (a := a2) (b := a1) (c := 599) (by
                have : ¬ a2.toInt < a1.toInt := fun q => d4 (Int32.lt_iff_toInt_lt.mpr q)
                omega) b2.2
              rw [this]; decide)
      · have b2 := bt_n c2
        rw [if_neg c2, if_neg (show ¬ bt a2 0 599 = 0 by rw [bt_y (a := a2) (b := 0) (c := 599) (by omega) b2.2]; decide), if_neg d3, if_neg (show ¬ a2 < a1 from fun q => by have := Int32.lt_iff_toInt_lt.mp q; omega)]
        rw [g_X11_force_K59_e]
        try simp only [↓ap1_n]
        by_cases c3 : si 384 7 = 30
        · have c3' := congrArg Int32.toInt c3
          rw [if_pos c3, if_neg (show ¬ I 98 < 30 from fun q => by have := Int32.lt_iff_toInt_lt.mp q; rw [e7] at this; omega)]
          exact no
        · have l3 : (si 384 7).toInt < 30 := by
            have : (si 384 7).toInt ≠ 30 := fun q => c3 (Int32.toInt_inj.mp (q.trans k30.symm))
            omega
          have c4 : I 98 < 30 := Int32.lt_iff_toInt_lt.mpr (by rw [e7]; omega)
          rw [if_neg c3, if_pos c4, g_X3_addForce_e]
          try simp only [↓ap1_n]
          rw [if_pos c4]
          obtain ⟨n, hn⟩ : ∃ n : Nat, (si 384 7).toInt = (n : Int) := ⟨(si 384 7).toInt.toNat, by omega⟩
          have m1 : ((4 : Int32) * si 384 7).toInt = 4 * (si 384 7).toInt := i_mul (show (4 : Int32).toInt = 4 by decide) rfl (by omega) (by omega)
          have m2 : ((2220 : Int32) + 4 * si 384 7).toInt = 2220 + 4 * (si 384 7).toInt := i_add (show (2220 : Int32).toInt = 2220 by decide) m1 (by omega) (by omega)
          have m3 : ((2220 : Int32) + 4 * si 384 7 + 1).toInt = 2220 + 4 * (si 384 7).toInt + 1 := i_add m2 (show (1 : Int32).toInt = 1 by decide) (by omega) (by omega)
          have m4 : ((2220 : Int32) + 4 * si 384 7 + 2).toInt = 2220 + 4 * (si 384 7).toInt + 2 := i_add m2 (show (2 : Int32).toInt = 2 by decide) (by omega) (by omega)
          have bb := bt_n c0
          have i96 : (I 96 - 1).toInt = (I 96).toInt - 1 := i_sub rfl (show (1 : Int32).toInt = 1 by decide) (by rw [e6]; omega) (by rw [e6]; omega)
          rw [i96, k0, e6] at bb
          rw [bn_n rfl, e7, at_n hn, at_n (p := 2220 + 4 * n) (m2.trans (by omega)), at_n (p := 2220 + 4 * n + 1) (m3.trans (by omega)), at_n (p := 2220 + 4 * n + 2) (m4.trans (by omega))]
          clear m1 m2 m3 m4 i96
          refine FCS_more h hn (by omega) (a0 := a0) (a1 := a1) (a2 := a2) bb.1 (by omega) ?_ ?_ ?_ ?_ ?_ ?_ ?_ ?_ ?_ (fun i q1 q2 => ?_)
          · dsimp only
            exact va_up_self _ _ _
          · dsimp only
            rw [va_up_self, upd_s]
          · dsimp only
            rw [va_up_self, upd_n _ _ (show (6 : Nat) ≠ 7 by decide), va_up_self, upd_n _ _ (by omega), va_up_self, upd_n _ _ (by omega), va_up_self, upd_n _ _ (by omega)]
          · dsimp only
            rw [va_up_ne _ _ (show (99 : Nat) ≠ 101 by decide), va_up_ne _ _ (show (99 : Nat) ≠ 100 by decide), va_up_self]
          · dsimp only
            rw [va_up_ne _ _ (show (100 : Nat) ≠ 101 by decide), va_up_self, va_up_ne _ _ (show (100 : Nat) ≠ 99 by decide)]
          · dsimp only
            rw [va_up_self, va_up_ne _ _ (show (101 : Nat) ≠ 100 by decide), va_up_ne _ _ (show (101 : Nat) ≠ 99 by decide)]
          · dsimp only
            rw [va_up_self, upd_n _ _ (by omega), va_up_self, upd_n _ _ (by omega), va_up_self, upd_n _ _ (by omega), va_up_self, upd_s]
          · dsimp only
            rw [va_up_self, upd_n _ _ (by omega), va_up_self, upd_n _ _ (by omega), va_up_self, upd_s]
          · dsimp only
            rw [va_up_self, upd_n _ _ (by omega), va_up_self, upd_s]
          · dsimp only
            rw [va_up_self, upd_n _ _ (by omega), va_up_self, upd_n _ _ (by omega), va_up_self, upd_n _ _ (by omega), va_up_self, upd_n _ _ (by omega)]
end PX2
/-! a copy of THE LAW -/
section CPX
variable {nI : Nat → Int32} {nJ : Nat → Int64} {nR : Nat → Nat → Int32} {nL : Nat → Nat → Int64} {nQ : Nat → Nat → Option Nat}
variable {I : Nat → Int32} {J : Nat → Int64} {ri : Nat → Nat → Int32} {rj : Nat → Nat → Int64} {rq : Nat → Nat → Option Nat}
/-- the copy has the same TEXTS and FORCES -/
def QX (nI : Nat → Int32) (nR : Nat → Nat → Int32) (nQ : Nat → Nat → Option Nat) (b : vM) : Prop := b.1 96 = nI 96 ∧ b.1 98 = nI 98 ∧ (∀ t, t ∈ [99, 100, 101] → ∀ j, j < 30 → b.2.2.1 t j = nR t j) ∧ ∀ t, t < 10 → b.2.2.2.2 97 t = nQ 97 t
theorem cpx_L : ∀ (n : Nat) (x : Int32) (k : Nat) (K : Nat → Int32) (q : Nat → Nat → Option Nat), x.toInt = (k : Int) → k ≤ 10 → 10 - k < n → K 96 = nI 96 → (∀ t, t < k → q 97 t = nQ 97 t) → QX nI nR nQ (g_X3_copyFrom_L10 J ri rj nI K nQ nR n x q) := by
  intro n
  induction n with
  | zero => intro x k K q h0 h1 h2; exact absurd h2 (Nat.not_lt_zero _)
  | succ n ih =>
    intro x k K q h0 h1 h2 h3 h4
    have k10 : (10 : Int32).toInt = ((10 : Nat) : Int) := by decide
    rw [g_X3_copyFrom_L10_e]
    by_cases c : (10 : Int32) ≤ x
    · have c1 := (le_n k10 h0).mp c
      rw [if_pos c]
      try simp only [↓ap1_n]
      refine ⟨?_, ?_, fun t ht j hj => ?_, fun t ht => h4 t (by omega)⟩
      · show va_up K 98 (nI 98) 96 = nI 96
        rw [va_up_ne _ _ (show (96 : Nat) ≠ 98 by decide)]; exact h3
      · show va_up K 98 (nI 98) 98 = nI 98
        exact va_up_self _ _ _
      · dsimp only
        have d : t = 99 ∨ t = 100 ∨ t = 101 := by simpa using ht
        rcases d with d | d | d
        · subst d
          rw [va_up_ne _ _ (show (99 : Nat) ≠ 101 by decide), va_up_ne _ _ (show (99 : Nat) ≠ 100 by decide), va_up_self]
          exact cpy_v hj
        · subst d
          rw [va_up_ne _ _ (show (100 : Nat) ≠ 101 by decide), va_up_self]
          exact cpy_v hj
        · subst d
          rw [va_up_self]
          exact cpy_v hj
    · have c1 : ¬ 10 ≤ k := fun y => c ((le_n k10 h0).mpr y)
      have hn : (x + Int32.ofInt 1).toInt = ((k + 1 : Nat) : Int) := up_i h0 (by omega)
      have st : ∀ (o : Option Nat), nQ 97 k = o → ∀ t, t < k + 1 → va_up q 97 (va_up (q 97) k o) 97 t = nQ 97 t := fun o ho t ht => by
        rw [va_up_self]
        by_cases z : t = k
        · rw [z, va_up_self, ho]
        · rw [va_up_ne _ _ z]; exact h4 t (by omega)
      rw [if_neg c, at_n h0]
      cases e : nQ 97 k with
      | none =>
        rw [op_0]
        try simp only [↓ap1_n]
        exact ih _ (k + 1) _ _ hn (by omega) (by omega) h3 (st none e)
      | some w =>
        rw [op_1]
        try simp only [↓ap1_n]
        exact ih _ (k + 1) _ _ hn (by omega) (by omega) h3 (st (some w) e)
theorem cpxt : QX nI nR nQ (g_X3_copyFrom nI nR nQ I J ri rj rq) := by
  rw [g_X3_copyFrom_e]
  try simp only [↓ap1_n]
  exact cpx_L _ 0 0 _ _ (show (0 : Int32).toInt = ((0 : Nat) : Int) by decide) (by decide) (by decide) (va_up_self _ _ _) (fun t ht => absurd ht (Nat.not_lt_zero _))
theorem copyFrom_x : QX nI nR nQ (g_X10_copyFrom nI nJ nR nL nQ I J ri rj rq) := by
  rw [g_X10_copyFrom_e]
  simp only [↓ap1_n]
  refine bV_all (fun _ _ _ _ _ => ?_)
  refine bV_all (fun _ _ _ _ _ => ?_)
  refine bV_all (fun _ _ _ _ _ => ?_)
  refine bV_to (P := QX nI nR nQ) (Q := QX nI nR nQ) cpxt (fun Ia _ ra _ qa h1 => ?_)
  refine bV_of (P := QX nI nR nQ) g_X1_copyFrom_f (fun Ic _ rc _ qc h4 => ?_)
  have y1 : Ic 96 = Ia 96 := h4.1 96 (by decide)
  have y2 : Ic 98 = Ia 98 := h4.1 98 (by decide)
  have y3 : ∀ t, t ∈ [99, 100, 101] → rc t = ra t := fun t ht => h4.2.2.1 t ((by decide : ∀ t, t ∈ [99, 100, 101] → t ∉ w_X1_copyFrom.2.2.1) t ht)
  have y4 : qc 97 = qa 97 := h4.2.2.2.2 97 (by decide)
  exact ⟨y1.trans h1.1, y2.trans h1.2.1, fun t ht j hj => (congrFun (y3 t ht) j).trans (h1.2.2.1 t ht j hj), fun t ht => h1.2.2.2 t ht⟩
theorem image_x {r : Int32} {I1 : Nat → Int32} {J1 : Nat → Int64} {r1 : Nat → Nat → Int32} {l1 : Nat → Nat → Int64} {q1 : Nat → Nat → Option Nat} (e : g_X11_image nI nJ nR nL nQ I J ri rj rq = (r, I1, J1, r1, l1, q1)) : QX nI nR nQ (I1, J1, r1, l1, q1) := by
  have h : QX nI nR nQ (g_X10_copyFrom nI nJ nR nL nQ I J ri rj rq) := copyFrom_x
  rw [g_X11_image_e] at e
  generalize g_X10_copyFrom nI nJ nR nL nQ I J ri rj rq = p at h e
  obtain ⟨a, b, c, d, f⟩ := p
  have e2 : ((nI 320, a, b, c, d, f) : Int32 × vM) = (r, I1, J1, r1, l1, q1) := e
  exact (Prod.mk.inj e2).2 ▸ h
theorem back_x {r : Int32} {I1 : Nat → Int32} {J1 : Nat → Int64} {r1 : Nat → Nat → Int32} {l1 : Nat → Nat → Int64} {q1 : Nat → Nat → Option Nat} (e : g_X11_back nI nJ nR nL nQ I J ri rj rq = (r, I1, J1, r1, l1, q1)) : QX nI nR nQ (I1, J1, r1, l1, q1) := by
  have h : QX nI nR nQ (g_X10_copyFrom nI nJ nR nL nQ I J ri rj rq) := copyFrom_x
  rw [g_X11_back_e] at e
  generalize g_X10_copyFrom nI nJ nR nL nQ I J ri rj rq = p at h e
  obtain ⟨a, b, c, d, f⟩ := p
  have e2 : ((a 320, a, b, c, d, f) : Int32 × vM) = (r, I1, J1, r1, l1, q1) := e
  exact (Prod.mk.inj e2).2 ▸ h
end CPX
/-! ===== pure: the MONTH whose ROCKS count (FIX), both sides (behind px) ===== -/
section PZ
variable {I : Nat → Int32} {J : Nat → Int64} {ri : Nat → Nat → Int32} {rj : Nat → Nat → Int64} {rq : Nat → Nat → Option Nat}
variable {U : Nat → Int32} {V : Nat → Int64} {si : Nat → Nat → Int32} {sj : Nat → Nat → Int64} {sq : Nat → Nat → Option Nat}
variable {tI : Nat → Nat → Int32} {tR : Nat → Nat → Nat → Int32}
def mth (mo y : Int32) : Int32 := if y < 0 then mo else if mo ≤ y then mo else y
theorem fx_m {mo : Int32} (hT : TXS I rq tI tR (si 384)) (hF : FCS I ri (si 384)) : ∃ y : Int32, g_X3_fixIn tI tR mo I J ri rj rq = (y, I, J, ri, rj, rq) ∧ g_X12_areaOf mo U V si sj sq = g_X12_areaOf_K23 U V si sj sq (mth mo y) := by
  obtain ⟨y, e1, e2⟩ := num_in (I := I) (J := J) (ri := ri) (rj := rj) (rq := rq) (U := U) (V := V) (si := si) (sj := sj) (sq := sq) (tI := tI) (tR := tR) (a := 7) (mo := mo) (d := -1) (by decide) (by decide) hT hF
  have s8 : (8 : Int32) = srC 7 := by decide
  refine ⟨y, ?_, ?_⟩
  · rw [g_X3_fixIn_e, bn_n e1]
  · rw [g_X12_areaOf_e, s8, bn_n e2]
    unfold mth
    by_cases q : y < 0
    · rw [if_pos q, if_pos q]; rfl
    · rw [if_neg q, if_neg q]
      by_cases q2 : mo ≤ y
      · rw [if_pos q2, if_pos q2]; rfl
      · rw [if_neg q2, if_neg q2]
theorem lv_m {mo : Int32} (hT : TXS I rq tI tR (si 384)) (hF : FCS I ri (si 384)) : ∃ y : Int32, g_X3_leaveIn tI tR mo I J ri rj rq = (y, I, J, ri, rj, rq) ∧ g_X12_numberOf 9 mo 10 U V si sj sq = (y, U, V, si, sj, sq) := by
  obtain ⟨y, e1, e2⟩ := num_in (I := I) (J := J) (ri := ri) (rj := rj) (rq := rq) (U := U) (V := V) (si := si) (sj := sj) (sq := sq) (tI := tI) (tR := tR) (a := 8) (mo := mo) (d := 10) (by decide) (by decide) hT hF
  have s9 : (9 : Int32) = srC 8 := by decide
  refine ⟨y, ?_, ?_⟩
  · rw [g_X3_leaveIn_e, bn_n e1]
  · rw [s9]; exact e2
end PZ
/-! ===== pure: bitCount of the JDK as a sum of bits (for area) ===== -/
section PB
def N3 (a : Int32) : Nat := a.toUInt32.toNat
theorem N3_lt (a : Int32) : N3 a < 4294967296 := a.toUInt32.toNat_lt
theorem n_add {a b : Int32} (h : N3 a + N3 b < 4294967296) : N3 (a + b) = N3 a + N3 b := by
  have e : (a + b).toUInt32 = a.toUInt32 + b.toUInt32 := rfl
  unfold N3 at h ⊢
  rw [e, UInt32.toNat_add]
  exact Nat.mod_eq_of_lt h
theorem n_sub {a b : Int32} (h : N3 b ≤ N3 a) : N3 (a - b) = N3 a - N3 b := by
  have e : (a - b).toUInt32 = a.toUInt32 - b.toUInt32 := rfl
  have la := N3_lt a
  unfold N3 at h la ⊢
  rw [e, UInt32.toNat_sub]
  omega
theorem n_and {a b : Int32} : N3 (a &&& b) = N3 a &&& N3 b := by
  have e : (a &&& b).toUInt32 = a.toUInt32 &&& b.toUInt32 := rfl
  unfold N3
  rw [e, UInt32.toNat_and]
theorem n_shr (a : Int32) {s : UInt32} (n : Nat) (hs : s.toNat = n) (hn : n < 32) : N3 ((a.toUInt32 >>> s).toInt32) = N3 a / 2 ^ n := by
  have e : ((a.toUInt32 >>> s).toInt32).toUInt32 = a.toUInt32 >>> s := rfl
  unfold N3
  rw [e, UInt32.toNat_shiftRight, hs, Nat.mod_eq_of_lt hn, Nat.shiftRight_eq_div_pow]
/-- and, by bytes -/
theorem and_b (x y : Nat) : x &&& y = (x % 256 &&& y % 256) + 256 * (x / 256 &&& y / 256) := by
  have h1 : (x &&& y) % 2 ^ 8 = x % 2 ^ 8 &&& y % 2 ^ 8 := Nat.and_mod_two_pow
  have h2 : (x &&& y) / 2 ^ 8 = x / 2 ^ 8 &&& y / 2 ^ 8 := Nat.and_div_two_pow
  have k : (2 : Nat) ^ 8 = 256 := by decide
  rw [k] at h1 h2
  rw [← h1, ← h2]
  omega
def m4 (a b c d : Nat) : Nat := a + 256 * (b + 256 * (c + 256 * d))
theorem m4_and {a b c d m : Nat} (ha : a < 256) (hb : b < 256) (hc : c < 256) (hd : d < 256) (hm : m < 256) : m4 a b c d &&& m4 m m m m = m4 (a &&& m) (b &&& m) (c &&& m) (d &&& m) := by
  unfold m4
  rw [and_b, show (a + 256 * (b + 256 * (c + 256 * d))) % 256 = a by omega, show (a + 256 * (b + 256 * (c + 256 * d))) / 256 = b + 256 * (c + 256 * d) by omega, show (m + 256 * (m + 256 * (m + 256 * m))) % 256 = m by omega, show (m + 256 * (m + 256 * (m + 256 * m))) / 256 = m + 256 * (m + 256 * m) by omega]
  rw [and_b (b + 256 * (c + 256 * d)), show (b + 256 * (c + 256 * d)) % 256 = b by omega, show (b + 256 * (c + 256 * d)) / 256 = c + 256 * d by omega, show (m + 256 * (m + 256 * m)) % 256 = m by omega, show (m + 256 * (m + 256 * m)) / 256 = m + 256 * m by omega]
  rw [and_b (c + 256 * d), show (c + 256 * d) % 256 = c by omega, show (c + 256 * d) / 256 = d by omega, show (m + 256 * m) % 256 = m by omega, show (m + 256 * m) / 256 = m by omega]
theorem m4_ex (A : Nat) (h : A < 4294967296) : ∃ a b c d, a < 256 ∧ b < 256 ∧ c < 256 ∧ d < 256 ∧ A = m4 a b c d := ⟨A % 256, A / 256 % 256, A / 65536 % 256, A / 16777216, by omega, by omega, by omega, by omega, by unfold m4; omega⟩
/-- the steps on one byte -/
def y2 (u : Nat) : Nat := u / 2 &&& 85
def y3 (u : Nat) : Nat := u - y2 u
def y7 (u : Nat) : Nat := (y3 u &&& 51) + (y3 u / 4 &&& 51)
def y10 (u : Nat) : Nat := y7 u % 16 + y7 u / 16
def p8 (u : Nat) : Nat := u % 2 + u / 2 % 2 + u / 4 % 2 + u / 8 % 2 + u / 16 % 2 + u / 32 % 2 + u / 64 % 2 + u / 128 % 2
theorem y_all : ∀ u, u < 256 → y2 u ≤ u ∧ y7 u ≤ 68 ∧ y7 u % 16 + y7 u / 16 ≤ 8 ∧ y10 u = p8 u := by decide +kernel
theorem c2 : ∀ u, u < 128 → (u &&& 85 = u % 128 &&& 85) ∧ ((u + 128) &&& 85 = u &&& 85) := by decide +kernel
theorem c6 : ∀ u, u < 64 → ((u + 64) &&& 51 = u &&& 51) ∧ ((u + 128) &&& 51 = u &&& 51) ∧ ((u + 192) &&& 51 = u &&& 51) := by decide +kernel
theorem c9 : ∀ u, u < 256 → u &&& 15 = u % 16 := by decide +kernel
theorem c15 : ∀ u, u < 256 → u &&& 63 = u % 64 := by decide +kernel
theorem s2 {u e : Nat} (hu : u < 256) (he : e < 2) : (u / 2 + 128 * e) &&& 85 = y2 u := by
  unfold y2
  have d : e = 0 ∨ e = 1 := by omega
  rcases d with d | d
  · rw [d]; rfl
  · rw [d]; exact (c2 (u / 2) (by omega)).2
theorem s6 {u e : Nat} (hu : u < 256) (he : e < 4) : (u / 4 + 64 * e) &&& 51 = u / 4 &&& 51 := by
  have d : e = 0 ∨ e = 1 ∨ e = 2 ∨ e = 3 := by omega
  obtain ⟨h1, h2, h3⟩ := c6 (u / 4) (by omega)
  rcases d with d | d | d | d
  · rw [d]; rfl
  · rw [d]; exact h1
  · rw [d]; exact h2
  · rw [d]; exact h3
theorem sh_1 {a b c d : Nat} (ha : a < 256) (hb : b < 256) (hc : c < 256) (hd : d < 256) : m4 a b c d / 2 = m4 (a / 2 + 128 * (b % 2)) (b / 2 + 128 * (c % 2)) (c / 2 + 128 * (d % 2)) (d / 2 + 128 * 0) := by unfold m4; omega
theorem sh_2 {a b c d : Nat} (ha : a < 256) (hb : b < 256) (hc : c < 256) (hd : d < 256) : m4 a b c d / 4 = m4 (a / 4 + 64 * (b % 4)) (b / 4 + 64 * (c % 4)) (c / 4 + 64 * (d % 4)) (d / 4 + 64 * 0) := by unfold m4; omega
theorem sh_4 {a b c d : Nat} (ha : a < 256) (hb : b < 256) (hc : c < 256) (hd : d < 256) : m4 a b c d / 16 = m4 (a / 16 + 16 * (b % 16)) (b / 16 + 16 * (c % 16)) (c / 16 + 16 * (d % 16)) (d / 16 + 16 * 0) := by unfold m4; omega
theorem m4_lt {a b c d : Nat} (ha : a < 256) (hb : b < 256) (hc : c < 256) (hd : d < 256) : m4 a b c d < 4294967296 := by unfold m4; omega
theorem bc_v (A0 : Int32) : ∃ a b c d, a < 256 ∧ b < 256 ∧ c < 256 ∧ d < 256 ∧ N3 A0 = m4 a b c d ∧ N3 (g_J6_bitCount_0f7a4 A0) = p8 a + p8 b + p8 c + p8 d := by
  obtain ⟨a, b, c, d, ha, hb, hc, hd, hA⟩ := m4_ex (N3 A0) (N3_lt A0)
  refine ⟨a, b, c, d, ha, hb, hc, hd, hA, ?_⟩
  obtain ⟨a1, a2, a3, a4⟩ := y_all a ha
  obtain ⟨b1, b2, b3', b4⟩ := y_all b hb
  obtain ⟨c1, c2', c3, c4⟩ := y_all c hc
  obtain ⟨d1, d2, d3, d4⟩ := y_all d hd
  have k5 : N3 1431655765 = m4 85 85 85 85 := by decide +kernel
  have k3 : N3 858993459 = m4 51 51 51 51 := by decide +kernel
  have kf : N3 252645135 = m4 15 15 15 15 := by decide +kernel
  have k6 : N3 63 = 63 := by decide +kernel
  rw [g_J6_bitCount_0f7a4_e]
  simp only [↓ap1_n]
  -- pairs
  generalize h1 : (A0.toUInt32 >>> ((1 : Int32).toUInt32 &&& Int32.toUInt32 31)).toInt32 = x1
  have e1 : N3 x1 = m4 a b c d / 2 := by
    rw [← h1, n_shr A0 1 (by decide +kernel) (by decide), hA]
    try rfl
  generalize h2 : x1 &&& (1431655765 : Int32) = x2
  have e2 : N3 x2 = m4 (y2 a) (y2 b) (y2 c) (y2 d) := by
    rw [← h2, n_and, e1, k5, sh_1 ha hb hc hd, m4_and (by omega) (by omega) (by omega) (by omega) (by decide), s2 ha (by omega), s2 hb (by omega), s2 hc (by omega), s2 hd (by omega)]
  generalize h3 : A0 - x2 = x3
  have e3 : N3 x3 = m4 (y3 a) (y3 b) (y3 c) (y3 d) := by
    rw [← h3, n_sub (by rw [e2, hA]; unfold m4; omega), e2, hA]
    unfold m4 y3
    omega
  have q3 : y3 a < 256 ∧ y3 b < 256 ∧ y3 c < 256 ∧ y3 d < 256 := by unfold y3; omega
  obtain ⟨qa, qb, qc, qd⟩ := q3
  -- fours
  generalize h4 : x3 &&& (858993459 : Int32) = x4
  have e4 : N3 x4 = m4 (y3 a &&& 51) (y3 b &&& 51) (y3 c &&& 51) (y3 d &&& 51) := by rw [← h4, n_and, e3, k3, m4_and qa qb qc qd (by decide)]
  generalize h5 : (x3.toUInt32 >>> ((2 : Int32).toUInt32 &&& Int32.toUInt32 31)).toInt32 = x5
  have e5 : N3 x5 = m4 (y3 a) (y3 b) (y3 c) (y3 d) / 4 := by
    rw [← h5, n_shr x3 2 (by decide +kernel) (by decide), e3]
    try rfl
  generalize h6 : x5 &&& (858993459 : Int32) = x6
  have e6 : N3 x6 = m4 (y3 a / 4 &&& 51) (y3 b / 4 &&& 51) (y3 c / 4 &&& 51) (y3 d / 4 &&& 51) := by
    rw [← h6, n_and, e5, k3, sh_2 qa qb qc qd, m4_and (by omega) (by omega) (by omega) (by omega) (by decide), s6 qa (by omega), s6 qb (by omega), s6 qc (by omega), s6 qd (by omega)]
  generalize h7 : x4 + x6 = x7
  have e7 : N3 x7 = m4 (y7 a) (y7 b) (y7 c) (y7 d) := by
    have u : m4 (y3 a &&& 51) (y3 b &&& 51) (y3 c &&& 51) (y3 d &&& 51) + m4 (y3 a / 4 &&& 51) (y3 b / 4 &&& 51) (y3 c / 4 &&& 51) (y3 d / 4 &&& 51) = m4 (y7 a) (y7 b) (y7 c) (y7 d) := by unfold m4 y7; omega
    have l := m4_lt (a := y7 a) (b := y7 b) (c := y7 c) (d := y7 d) (by omega) (by omega) (by omega) (by omega)
    rw [← h7, n_add (by rw [e4, e6, u]; exact l), e4, e6, u]
  -- bytes
  generalize h8 : (x7.toUInt32 >>> ((4 : Int32).toUInt32 &&& Int32.toUInt32 31)).toInt32 = x8
  have e8 : N3 x8 = m4 (y7 a / 16 + 16 * (y7 b % 16)) (y7 b / 16 + 16 * (y7 c % 16)) (y7 c / 16 + 16 * (y7 d % 16)) (y7 d / 16 + 16 * 0) := by rw [← h8, n_shr x7 4 (by decide +kernel) (by decide), e7]; exact sh_4 (by omega) (by omega) (by omega) (by omega)
  have r : ∀ u, u < 256 → y7 u % 16 ≤ 4 ∧ y7 u / 16 ≤ 4 := by decide +kernel
  have ra := r a ha
  have rb := r b hb
  have rc := r c hc
  have rd := r d hd
  generalize h9 : x7 + x8 = x9
  have e9 : N3 x9 = m4 (y7 a + (y7 a / 16 + 16 * (y7 b % 16))) (y7 b + (y7 b / 16 + 16 * (y7 c % 16))) (y7 c + (y7 c / 16 + 16 * (y7 d % 16))) (y7 d + (y7 d / 16 + 16 * 0)) := by
    have u : m4 (y7 a) (y7 b) (y7 c) (y7 d) + m4 (y7 a / 16 + 16 * (y7 b % 16)) (y7 b / 16 + 16 * (y7 c % 16)) (y7 c / 16 + 16 * (y7 d % 16)) (y7 d / 16 + 16 * 0) = m4 (y7 a + (y7 a / 16 + 16 * (y7 b % 16))) (y7 b + (y7 b / 16 + 16 * (y7 c % 16))) (y7 c + (y7 c / 16 + 16 * (y7 d % 16))) (y7 d + (y7 d / 16 + 16 * 0)) := by unfold m4; omega
    have l := m4_lt (a := y7 a + (y7 a / 16 + 16 * (y7 b % 16))) (b := y7 b + (y7 b / 16 + 16 * (y7 c % 16))) (c := y7 c + (y7 c / 16 + 16 * (y7 d % 16))) (d := y7 d + (y7 d / 16 + 16 * 0)) (by omega) (by omega) (by omega) (by omega)
    rw [← h9, n_add (by rw [e7, e8, u]; exact l), e7, e8, u]
  generalize h10 : x9 &&& (252645135 : Int32) = x10
  have e10 : N3 x10 = m4 (p8 a) (p8 b) (p8 c) (p8 d) := by
    rw [← h10, n_and, e9, kf, m4_and (by omega) (by omega) (by omega) (by omega) (by decide), c9 _ (by omega), c9 _ (by omega), c9 _ (by omega), c9 _ (by omega), ← a4, ← b4, ← c4, ← d4]
    unfold y10
    rw [show (y7 a + (y7 a / 16 + 16 * (y7 b % 16))) % 16 = y7 a % 16 + y7 a / 16 by omega, show (y7 b + (y7 b / 16 + 16 * (y7 c % 16))) % 16 = y7 b % 16 + y7 b / 16 by omega, show (y7 c + (y7 c / 16 + 16 * (y7 d % 16))) % 16 = y7 c % 16 + y7 c / 16 by omega, show (y7 d + (y7 d / 16 + 16 * 0)) % 16 = y7 d % 16 + y7 d / 16 by omega]
  have pa : p8 a ≤ 8 := by rw [← a4]; exact a3
  have pb : p8 b ≤ 8 := by rw [← b4]; exact b3'
  have pc : p8 c ≤ 8 := by rw [← c4]; exact c3
  have pd : p8 d ≤ 8 := by rw [← d4]; exact d3
  -- all
  generalize h11 : (x10.toUInt32 >>> ((8 : Int32).toUInt32 &&& Int32.toUInt32 31)).toInt32 = x11
  have e11 : N3 x11 = m4 (p8 b) (p8 c) (p8 d) 0 := by
    rw [← h11, n_shr x10 8 (by decide +kernel) (by decide), e10]
    unfold m4
    omega
  generalize h12 : x10 + x11 = x12
  have e12 : N3 x12 = m4 (p8 a + p8 b) (p8 b + p8 c) (p8 c + p8 d) (p8 d) := by
    rw [← h12, n_add (by rw [e10, e11]; unfold m4; omega), e10, e11]
    unfold m4
    omega
  generalize h13 : (x12.toUInt32 >>> ((16 : Int32).toUInt32 &&& Int32.toUInt32 31)).toInt32 = x13
  have e13 : N3 x13 = m4 (p8 c + p8 d) (p8 d) 0 0 := by
    rw [← h13, n_shr x12 16 (by decide +kernel) (by decide), e12]
    unfold m4
    omega
  generalize h14 : x12 + x13 = x14
  have e14 : N3 x14 = m4 (p8 a + p8 b + (p8 c + p8 d)) (p8 b + p8 c + p8 d) (p8 c + p8 d) (p8 d) := by
    rw [← h14, n_add (by rw [e12, e13]; unfold m4; omega), e12, e13]
    unfold m4
    omega
  rw [n_and, e14, k6, and_b]
  unfold m4
  rw [show (p8 a + p8 b + (p8 c + p8 d) + 256 * (p8 b + p8 c + p8 d + 256 * (p8 c + p8 d + 256 * p8 d))) % 256 = p8 a + p8 b + (p8 c + p8 d) by omega, show (63 : Nat) % 256 = 63 by decide, show (63 : Nat) / 256 = 0 by decide, Nat.and_zero, c15 _ (by omega)]
  omega
end PB
/-! ===== pure: counting (behind pa) ===== -/
section PF
/-- of n from p on, how many -/
def cnF (f : Nat → Bool) : Nat → Nat → Nat
  | _, 0 => 0
  | p, n + 1 => (if f p = true then 1 else 0) + cnF f (p + 1) n
def smF (g : Nat → Nat) : Nat → Nat → Nat
  | _, 0 => 0
  | p, n + 1 => g p + smF g (p + 1) n
theorem cnF_cg {f g : Nat → Bool} : ∀ (n p q : Nat), (∀ i, i < n → f (p + i) = g (q + i)) → cnF f p n = cnF g q n
  | 0, _, _, _ => rfl
  | n + 1, p, q, h => by
    have h0 : f p = g q := h 0 (Nat.succ_pos _)
    show (if f p = true then 1 else 0) + cnF f (p + 1) n = (if g q = true then 1 else 0) + cnF g (q + 1) n
    rw [h0, cnF_cg n (p + 1) (q + 1) (fun i hi => by rw [Nat.add_assoc, Nat.add_assoc, Nat.add_comm 1 i]; exact h (i + 1) (by omega))]
theorem cnF_le {f : Nat → Bool} : ∀ (n p : Nat), cnF f p n ≤ n
  | 0, _ => Nat.le_refl _
  | n + 1, p => by
    have := cnF_le (f := f) n (p + 1)
    show (if f p = true then 1 else 0) + cnF f (p + 1) n ≤ n + 1
    by_cases c : f p = true
    · rw [if_pos c]; omega
    · rw [if_neg c]; omega
theorem cnF_add {f : Nat → Bool} : ∀ (m n p : Nat), cnF f p (m + n) = cnF f p m + cnF f (p + m) n
  | 0, n, p => by rw [Nat.zero_add, Nat.add_zero]; exact (Nat.zero_add _).symm
  | m + 1, n, p => by
    have e : m + 1 + n = m + n + 1 := by omega
    rw [e]
    show (if f p = true then 1 else 0) + cnF f (p + 1) (m + n) = (if f p = true then 1 else 0) + cnF f (p + 1) m + cnF f (p + (m + 1)) n
    rw [cnF_add m n (p + 1), show p + 1 + m = p + (m + 1) by omega, Nat.add_assoc]
/-- rows of 32 -/
theorem cnF_32 {f : Nat → Bool} : ∀ (n k : Nat), cnF f (32 * k) (32 * n) = smF (fun k => cnF f (32 * k) 32) k n
  | 0, _ => rfl
  | n + 1, k => by
    have e : 32 * (n + 1) = 32 + 32 * n := by omega
    have e2 : 32 * k + 32 = 32 * (k + 1) := by omega
    rw [e, cnF_add, e2, cnF_32 n (k + 1)]
    rfl
theorem smF_cg {g h : Nat → Nat} : ∀ (n p : Nat), (∀ i, p ≤ i → i < p + n → g i = h i) → smF g p n = smF h p n
  | 0, _, _ => rfl
  | n + 1, p, e => by
    show g p + smF g (p + 1) n = h p + smF h (p + 1) n
    rw [e p (Nat.le_refl _) (by omega), smF_cg n (p + 1) (fun i h1 h2 => e i (by omega) (by omega))]
/-- the bits of a number, the least first -/
def bs : Nat → Nat → Nat
  | _, 0 => 0
  | A, n + 1 => A % 2 + bs (A / 2) n
theorem bs_v : ∀ (n A p : Nat) (f : Nat → Bool), (∀ i, i < n → f (p + i) = A.testBit i) → cnF f p n = bs A n
  | 0, _, _, _, _ => rfl
  | n + 1, A, p, f, h => by
    have h0 : f p = A.testBit 0 := h 0 (Nat.succ_pos _)
    have e0 : (if f p = true then 1 else 0) = A % 2 := by
      rw [h0, Nat.testBit_zero]
      have : A % 2 = 0 ∨ A % 2 = 1 := by omega
      rcases this with d | d
      · rw [d]; decide
      · rw [d]; decide
    show (if f p = true then 1 else 0) + cnF f (p + 1) n = A % 2 + bs (A / 2) n
    rw [e0, bs_v n (A / 2) (p + 1) f (fun i hi => by rw [Nat.add_assoc, Nat.add_comm 1 i, h (i + 1) (by omega), Nat.testBit_succ])]
theorem bs_8 (A n : Nat) : bs A (n + 8) = p8 (A % 256) + bs (A / 256) n := by
  have e : bs A (n + 8) = A % 2 + (A / 2 % 2 + (A / 2 / 2 % 2 + (A / 2 / 2 / 2 % 2 + (A / 2 / 2 / 2 / 2 % 2 + (A / 2 / 2 / 2 / 2 / 2 % 2 + (A / 2 / 2 / 2 / 2 / 2 / 2 % 2 + (A / 2 / 2 / 2 / 2 / 2 / 2 / 2 % 2 + bs (A / 2 / 2 / 2 / 2 / 2 / 2 / 2 / 2) n))))))) := rfl
  have d : A / 2 / 2 / 2 / 2 / 2 / 2 / 2 / 2 = A / 256 := by omega
  rw [e, d]
  unfold p8
  omega
theorem pc_v (w : Int32) : (g_J6_bitCount_0f7a4 w).toInt = (cnF (b3 w) 0 32 : Int) := by
  obtain ⟨a, b, c, d, ha, hb, hc, hd, e1, e2⟩ := bc_v w
  have t : ∀ i, i < 32 → b3 w (0 + i) = (N3 w).testBit i := fun i _ => by
    rw [Nat.zero_add]
    rfl
  have e3 := bs_v 32 (N3 w) 0 (b3 w) t
  rw [e3, e1]
  have f1 := bs_8 (m4 a b c d) 24
  have f2 := bs_8 (m4 a b c d / 256) 16
  have f3 := bs_8 (m4 a b c d / 256 / 256) 8
  have f4 := bs_8 (m4 a b c d / 256 / 256 / 256) 0
  have g1 : m4 a b c d % 256 = a := by unfold m4; omega
  have g2 : m4 a b c d / 256 % 256 = b := by unfold m4; omega
  have g3 : m4 a b c d / 256 / 256 % 256 = c := by unfold m4; omega
  have g4 : m4 a b c d / 256 / 256 / 256 % 256 = d := by unfold m4; omega
  rw [g1] at f1
  rw [g2] at f2
  rw [g3] at f3
  rw [g4] at f4
  have z : bs (m4 a b c d / 256 / 256 / 256 / 256) 0 = 0 := rfl
  have l : ∀ u, u < 256 → p8 u ≤ 8 := by decide +kernel
  have la := l a ha
  have lb := l b hb
  have lc := l c hc
  have ld := l d hd
  have k : (g_J6_bitCount_0f7a4 w).toInt = (N3 (g_J6_bitCount_0f7a4 w) : Int) := by
    have h : (g_J6_bitCount_0f7a4 w).toBitVec.toNat < 2147483648 := by
      show N3 (g_J6_bitCount_0f7a4 w) < 2147483648
      rw [e2]
      omega
    show (g_J6_bitCount_0f7a4 w).toBitVec.toInt = _
    rw [BitVec.toInt_eq_toNat_of_lt (by omega)]
    rfl
  rw [k, e2, f1, f2, f3, f4, z]
  omega
end PF
/-! ===== pure: AREA of the class: how wide REACH is (behind pb) ===== -/
section PA
variable {I : Nat → Int32} {J : Nat → Int64} {rj : Nat → Nat → Int64} {rq : Nat → Nat → Option Nat}
theorem sq_i {x : Int32} {j : Nat} (hx : x.toInt = (j : Int)) (hj : j ≤ 100) : (x * x).toInt = ((j * j : Nat) : Int) := by
  have h := Nat.mul_le_mul hj hj
  have e : (j : Int) * (j : Int) = ((j * j : Nat) : Int) := by rw [Int.natCast_mul]
  have := i_mul hx hx (by rw [e]; omega) (by rw [e]; omega)
  rw [this, e]
/-- the greatest w by d of REACH -/
def GW (R d w : Nat) : Prop := w * w + d * d ≤ R * R ∧ R * R < (w + 1) * (w + 1) + d * d
theorem GW_n {R d w x : Nat} (h : GW R d w) : x ≤ w ↔ x * x + d * d ≤ R * R := by
  obtain ⟨h1, h2⟩ := h
  constructor
  · intro q
    have := Nat.mul_le_mul q q
    omega
  · intro q
    by_cases z : x ≤ w
    · exact z
    · have := Nat.mul_le_mul (show w + 1 ≤ x by omega) (show w + 1 ≤ x by omega)
      omega
theorem dn_n {x : Int32} {j : Nat} (hx : x.toInt = ((j + 1 : Nat) : Int)) (hj : j ≤ 1000) : (x + Int32.ofInt (-1)).toInt = (j : Int) := by
  have := i_add hx (show (Int32.ofInt (-1)).toInt = -1 by decide) (by omega) (by omega)
  rw [this]
  omega
theorem ms_18 {a0 x1 : Int32} {R d : Nat} (hR : a0.toInt = (R : Int)) (hR2 : R ≤ 20) (hd : x1.toInt = (d : Int)) (hd2 : d ≤ R) {r : Nat → Nat → Int32} {k : Int32 → Int32 → (Nat → Nat → Int32) → vM} : ∀ (n : Nat) (x : Int32) (j : Nat), x.toInt = (j : Int) → j ≤ 20 → j < n → R * R < (j + 1) * (j + 1) + d * d → ∃ (y : Int32) (w : Nat), g_X2_measure_L18 a0 I J rj rq x1 r k n x = g_X2_measure_K41 x1 r k y ∧ y.toInt = (w : Int) ∧ w ≤ j ∧ GW R d w := by
  have k0 : (0 : Int32).toInt = 0 := by decide
  intro n
  induction n with
  | zero => intro _ _ _ _ h; exact absurd h (Nat.not_lt_zero _)
  | succ n ih =>
    intro x j hx hj hn hg
    rw [g_X2_measure_L18_e]
    try simp only [↓ap1_n]
    by_cases q : x ≤ 0
    · rw [if_pos q]
      have q1 := Int32.le_iff_toInt_le.mp q
      rw [k0, hx] at q1
      have j0 : j = 0 := by omega
      have := Nat.mul_le_mul hd2 hd2
      refine ⟨x, j, rfl, hx, Nat.le_refl _, ?_, hg⟩
      rw [j0]
      omega
    · have q1 : 1 ≤ j := by
        have z : ¬ x.toInt ≤ (0 : Int32).toInt := fun z => q (Int32.le_iff_toInt_le.mpr z)
        rw [k0, hx] at z
        omega
      rw [if_neg q]
      have s1 := sq_i hx (by omega)
      have s2 := sq_i hd (by omega)
      have s3 := sq_i hR (by omega)
      have b1 := Nat.mul_le_mul hj hj
      have b2 := Nat.mul_le_mul (Nat.le_trans hd2 hR2) (Nat.le_trans hd2 hR2)
      have s4 := i_add s1 s2 (by omega) (by omega)
      have iff1 : x * x + x1 * x1 ≤ a0 * a0 ↔ j * j + d * d ≤ R * R := by
        rw [Int32.le_iff_toInt_le, s4, s3]
        omega
      by_cases c : x * x + x1 * x1 ≤ a0 * a0
      · rw [if_pos c]
        exact ⟨x, j, rfl, hx, Nat.le_refl _, iff1.mp c, hg⟩
      · rw [if_neg c]
        have c1 : ¬ j * j + d * d ≤ R * R := fun z => c (iff1.mpr z)
        obtain ⟨i, hi⟩ : ∃ i, j = i + 1 := ⟨j - 1, by omega⟩
        rw [hi] at hx c1
        obtain ⟨y, w, e1, e2, e3, e4⟩ := ih (x + Int32.ofInt (-1)) i (dn_n hx (by omega)) (by omega) (by omega) (by omega)
        exact ⟨y, w, e1, e2, by omega, e4⟩
theorem ms_4 {a0 : Int32} {R : Nat} (hR : a0.toInt = (R : Int)) (hR2 : R ≤ 20) : ∀ (m : Nat) (x x1 : Int32) (j d : Nat) (r : Nat → Nat → Int32), x.toInt = (j : Int) → j ≤ 20 → x1.toInt = (d : Int) → d ≤ R + 1 → R + 1 - d < m → R * R < (j + 1) * (j + 1) + d * d → ∃ r' : Nat → Nat → Int32, g_X2_measure_L4 a0 I J rj rq m x x1 r = (I, J, r', rj, rq) ∧ (∀ t, t ≠ 83 → r' t = r t) ∧ (∀ i, i < d → r' 83 i = r 83 i) ∧ ∀ i, d ≤ i → i ≤ R → ∃ w : Nat, (r' 83 i).toInt = (w : Int) ∧ w ≤ 20 ∧ GW R i w := by
  intro m
  induction m with
  | zero => intro _ _ _ _ _ _ _ _ _ h; exact absurd h (Nat.not_lt_zero _)
  | succ m ih =>
    intro x x1 j d r hx hj hd hd2 hm hg
    rw [g_X2_measure_L4_e]
    try simp only [↓ap1_n]
    by_cases q : a0 < x1
    · have q1 := (lt_n hR hd).mp q
      rw [if_pos q]
      exact ⟨r, rfl, fun _ _ => rfl, fun _ _ => rfl, fun i h1 h2 => absurd h2 (by omega)⟩
    · have q1 : ¬ R < d := fun z => q ((lt_n hR hd).mpr z)
      rw [if_neg q]
      obtain ⟨y, w, e1, e2, e3, e4⟩ := ms_18 (I := I) (J := J) (rj := rj) (rq := rq) hR hR2 hd (by omega) (r := r) (k := g_X2_measure_L4 a0 I J rj rq m) (((x).toInt - 0).toNat + 1) x j hx hj (by rw [hx]; omega) hg
      rw [e1, g_X2_measure_K41_e]
      try simp only [↓ap1_n]
      have g2 : R * R < (w + 1) * (w + 1) + (d + 1) * (d + 1) := by
        have h1 := e4.2
        have h2 : d * d ≤ (d + 1) * (d + 1) := Nat.mul_le_mul (Nat.le_succ d) (Nat.le_succ d)
        omega
      obtain ⟨r', f1, f2, f3, f4⟩ := ih y (x1 + Int32.ofInt 1) w (d + 1) (va_up r 83 (upd (r 83) x1.toNatClampNeg y)) e2 (by omega) (up_i hd (by omega)) (by omega) (by omega) g2
      refine ⟨r', f1, fun t ht => (f2 t ht).trans (va_up_ne _ _ ht), fun i hi => ?_, fun i h1 h2 => ?_⟩
      · rw [f3 i (by omega), va_up_self, at_n hd, upd_n _ _ (by omega)]
      · by_cases z : i = d
        · refine ⟨w, ?_, by omega, ?_⟩
          · rw [z, f3 d (by omega), va_up_self, at_n hd, upd_s]; exact e2
          · rw [z]; exact e4
        · exact f4 i (by omega) h2
/-- how wide REACH is at each distance -/
theorem measure_v {a0 : Int32} {R : Nat} (hR : a0.toInt = (R : Int)) (hR2 : R ≤ 20) {r : Nat → Nat → Int32} : ∃ r' : Nat → Nat → Int32, g_X2_measure a0 I J r rj rq = (I, J, r', rj, rq) ∧ (∀ t, t ≠ 83 → r' t = r t) ∧ ∀ i, i ≤ R → ∃ w : Nat, (r' 83 i).toInt = (w : Int) ∧ w ≤ 20 ∧ GW R i w := by
  have k0 : (0 : Int32).toInt = 0 := by decide
  rw [g_X2_measure_e]
  obtain ⟨r', e1, e2, _, e4⟩ := ms_4 (I := I) (J := J) (rj := rj) (rq := rq) hR hR2 ((21 - (0 : Int32).toInt).toNat + 1) a0 0 R 0 r hR hR2 k0 (by omega) (by rw [k0]; omega) (by
    have : R * R < (R + 1) * (R + 1) := Nat.mul_lt_mul_of_lt_of_lt (Nat.lt_succ_self R) (Nat.lt_succ_self R)
    omega)
  exact ⟨r', e1, e2, fun i h => e4 i (Nat.zero_le _) h⟩
/-! the places that a CELL marks -/
def ad (a b : Nat) : Nat := (a - b) + (b - a)
theorem msk_l : ∀ f, f < 32 → ∀ i, i < 32 → b3 ((-1 : Int32) <<< (nI f &&& 31)) i = decide (f ≤ i) := by unfold b3; decide +kernel
theorem msk_r : ∀ t, t < 32 → ∀ i, i < 32 → b3 (((-1 : Int32).toUInt32 >>> ((nI t).toUInt32 &&& Int32.toUInt32 31)).toInt32) i = decide (i + t ≤ 31) := by unfold b3; decide +kernel
theorem to_nI {x : Int32} {f : Nat} (h : x.toInt = (f : Int)) (hf : f ≤ 1000) : x = nI f := Int32.toInt_inj.mp (by rw [h, nI_toInt (n := f) (by omega)])
theorem max_v {x : Int32} {z : Int} (h : x.toInt = z) : ((if (0 : Int32) < x then x else 0) : Int32).toInt = (z.toNat : Int) := by
  have k0 : (0 : Int32).toInt = 0 := by decide
  by_cases q : (0 : Int32) < x
  · have q1 := Int32.lt_iff_toInt_lt.mp q
    rw [k0, h] at q1
    rw [if_pos q, h]
    omega
  · have q1 : ¬ (0 : Int32).toInt < x.toInt := fun y => q (Int32.lt_iff_toInt_lt.mpr y)
    rw [k0, h] at q1
    rw [if_neg q, k0]
    omega
theorem min_v {x : Int32} {z : Nat} (h : x.toInt = (z : Int)) : ((if x < (31 : Int32) then x else 31) : Int32).toInt = ((min 31 z : Nat) : Int) := by
  have k0 : (31 : Int32).toInt = 31 := by decide
  by_cases q : x < (31 : Int32)
  · have q1 := Int32.lt_iff_toInt_lt.mp q
    rw [k0, h] at q1
    rw [if_pos q, h]
    omega
  · have q1 : ¬ x.toInt < (31 : Int32).toInt := fun y => q (Int32.lt_iff_toInt_lt.mpr y)
    rw [k0, h] at q1
    rw [if_neg q, k0]
    omega
theorem abs_v {x : Int32} {a b : Nat} (h : x.toInt = (a : Int) - (b : Int)) (ha : a ≤ 1000) (hb : b ≤ 1000) : ((if (0 : Int32) ≤ x then x else 0 - x) : Int32).toInt = (ad a b : Int) := by
  have k0 : (0 : Int32).toInt = 0 := by decide
  unfold ad
  by_cases q : (0 : Int32) ≤ x
  · have q1 := Int32.le_iff_toInt_le.mp q
    rw [k0, h] at q1
    rw [if_pos q, h]
    omega
  · have q1 : ¬ (0 : Int32).toInt ≤ x.toInt := fun y => q (Int32.le_iff_toInt_le.mpr y)
    rw [k0, h] at q1
    rw [if_neg q]
    have := i_sub k0 h (by omega) (by omega)
    rw [this]
    omega
theorem mk_23 {a0 a1 x7 : Int32} {X Y R t7 : Nat} (hX : a0.toInt = (X : Int)) (hX2 : X ≤ 31) (hY : a1.toInt = (Y : Int)) (hY2 : Y ≤ 31) (h7 : x7.toInt = (t7 : Int)) (h72 : t7 ≤ 31) (h73 : t7 ≤ Y + R) (hR2 : R ≤ 20) : ∀ (n : Nat) (x : Int32) (j : Nat) (r : Nat → Nat → Int32), x.toInt = (j : Int) → j ≤ t7 + 1 → Y ≤ j + R → t7 + 1 - j < n → (∀ i, i ≤ R → ∃ w : Nat, (r 83 i).toInt = (w : Int) ∧ w ≤ 20 ∧ GW R i w) → ∃ r' : Nat → Nat → Int32, g_X2_mark_L23 a0 a1 I J rj rq x7 n x r = (I, J, r', rj, rq) ∧ (∀ t, t ≠ 82 → r' t = r t) ∧ ∀ k i, k < 32 → i < 32 → b3 (r' 82 k) i = (b3 (r 82 k) i || decide (j ≤ k ∧ k ≤ t7 ∧ ad i X * ad i X + ad k Y * ad k Y ≤ R * R)) := by
  intro n
  induction n with
  | zero => intro _ _ _ _ _ _ h; exact absurd h (Nat.not_lt_zero _)
  | succ n ih =>
    intro x j r hx hj hlo hn hW
    rw [g_X2_mark_L23_e]
    try simp only [↓ap1_n, g_X2_mark_K102]
    by_cases q : x7 < x
    · have q1 := (lt_n h7 hx).mp q
      rw [if_pos q]
      refine ⟨r, rfl, fun _ _ => rfl, fun k i _ _ => ?_⟩
      rw [decide_eq_false (show ¬ (j ≤ k ∧ k ≤ t7 ∧ ad i X * ad i X + ad k Y * ad k Y ≤ R * R) from fun z => by have := z.1; have := z.2.1; omega), Bool.or_false]
    · have q1 : ¬ t7 < j := fun z => q ((lt_n h7 hx).mpr z)
      rw [if_neg q]
      have hd : ((if (0 : Int32) ≤ x - a1 then x - a1 else 0 - (x - a1)) : Int32).toInt = (ad j Y : Int) := abs_v (i_sub hx hY (by omega) (by omega)) (by omega) (by omega)
      generalize (if (0 : Int32) ≤ x - a1 then x - a1 else 0 - (x - a1) : Int32) = dd at hd ⊢
      have had : ad j Y ≤ R := by unfold ad; omega
      have k21 : (21 : Int32).toInt = ((21 : Nat) : Int) := by decide
      obtain ⟨w, w1, w2, w3⟩ := hW (ad j Y) had
      rw [if_neg (show ¬ (21 : Int32) ≤ dd from fun z => by have := (le_n k21 hd).mp z; omega), at_n hd, at_n hx]
      have hf := max_v (i_sub hX w1 (by omega) (by omega))
      have ht := min_v (z := X + w) ((i_add hX w1 (by omega) (by omega)).trans (by omega))
      generalize (if (0 : Int32) < a0 - r 83 (ad j Y) then a0 - r 83 (ad j Y) else 0 : Int32) = ff at hf ⊢
      generalize (if a0 + r 83 (ad j Y) < (31 : Int32) then a0 + r 83 (ad j Y) else 31 : Int32) = tt at ht ⊢
      have hs : ((31 : Int32) - tt).toInt = ((31 - min 31 (X + w) : Nat) : Int) := by
        have := i_sub (show (31 : Int32).toInt = 31 by decide) ht (by omega) (by omega)
        rw [this]
        omega
      rw [to_nI (f := ((X : Int) - (w : Int)).toNat) hf (by omega), to_nI hs (by omega)]
      generalize hv : (r 82 j ||| ((-1 : Int32) <<< (nI ((X : Int) - (w : Int)).toNat &&& 31) &&& ((-1 : Int32).toUInt32 >>> ((nI (31 - min 31 (X + w))).toUInt32 &&& Int32.toUInt32 31)).toInt32) : Int32) = v
      have bv : ∀ i, i < 32 → b3 v i = (b3 (r 82 j) i || decide (ad i X * ad i X + ad j Y * ad j Y ≤ R * R)) := fun i hi => by
        rw [← hv, b_or, b_and, msk_l _ (by omega) i hi, msk_r _ (by omega) i hi, ← Bool.decide_and]
        have z : (((X : Int) - (w : Int)).toNat ≤ i ∧ i + (31 - min 31 (X + w)) ≤ 31) ↔ ad i X * ad i X + ad j Y * ad j Y ≤ R * R := by
          rw [← GW_n w3]
          unfold ad
          omega
        rw [decide_eq_decide.mpr z]
      obtain ⟨r', e1, e2, e3⟩ := ih (x + Int32.ofInt 1) (j + 1) (va_up r 82 (upd (r 82) j v)) (up_i hx (by omega)) (by omega) (by omega) (by omega) (by rw [va_up_ne _ _ (show (83 : Nat) ≠ 82 by decide)]; exact hW)
      refine ⟨r', e1, fun t h => (e2 t h).trans (va_up_ne _ _ h), fun k i hk hi => ?_⟩
      rw [e3 k i hk hi, va_up_self]
      by_cases z : k = j
      · rw [z, upd_s, bv i hi, decide_eq_false (show ¬ (j + 1 ≤ j ∧ j ≤ t7 ∧ ad i X * ad i X + ad j Y * ad j Y ≤ R * R) from fun y => by have := y.1; omega), Bool.or_false]
        have e : (ad i X * ad i X + ad j Y * ad j Y ≤ R * R) ↔ (j ≤ j ∧ j ≤ t7 ∧ ad i X * ad i X + ad j Y * ad j Y ≤ R * R) := ⟨fun y => ⟨Nat.le_refl _, by omega, y⟩, fun y => y.2.2⟩
        rw [decide_eq_decide.mpr e]
      · rw [upd_n _ _ z]
        have e : (j + 1 ≤ k ∧ k ≤ t7 ∧ ad i X * ad i X + ad k Y * ad k Y ≤ R * R) ↔ (j ≤ k ∧ k ≤ t7 ∧ ad i X * ad i X + ad k Y * ad k Y ≤ R * R) := ⟨fun y => ⟨by have := y.1; omega, y.2⟩, fun y => ⟨by have := y.1; omega, y.2⟩⟩
        rw [decide_eq_decide.mpr e]
theorem mark_v {a0 a1 a2 : Int32} {X Y R : Nat} (hX : a0.toInt = (X : Int)) (hX2 : X ≤ 31) (hY : a1.toInt = (Y : Int)) (hY2 : Y ≤ 31) (hR : a2.toInt = (R : Int)) (hR2 : R ≤ 20) {r : Nat → Nat → Int32} (hW : ∀ i, i ≤ R → ∃ w : Nat, (r 83 i).toInt = (w : Int) ∧ w ≤ 20 ∧ GW R i w) : ∃ r' : Nat → Nat → Int32, g_X2_mark a0 a1 a2 I J r rj rq = (I, J, r', rj, rq) ∧ (∀ t, t ≠ 82 → r' t = r t) ∧ ∀ k i, k < 32 → i < 32 → b3 (r' 82 k) i = (b3 (r 82 k) i || decide (ad i X * ad i X + ad k Y * ad k Y ≤ R * R)) := by
  rw [g_X2_mark_e]
  try simp only [↓ap1_n]
  have hlo := max_v (i_sub hY hR (by omega) (by omega))
  have hhi := min_v (z := Y + R) ((i_add hY hR (by omega) (by omega)).trans (by omega))
  generalize (if (0 : Int32) < a1 - a2 then a1 - a2 else 0 : Int32) = lo at hlo ⊢
  generalize (if a1 + a2 < (31 : Int32) then a1 + a2 else 31 : Int32) = hi at hhi ⊢
  obtain ⟨r', e1, e2, e3⟩ := mk_23 (I := I) (J := J) (rj := rj) (rq := rq) hX hX2 hY hY2 hhi (by omega) (by omega) hR2 ((32 - lo.toInt).toNat + 1) lo ((Y : Int) - (R : Int)).toNat r hlo (by omega) (by omega) (by rw [hlo]; omega) hW
  refine ⟨r', e1, e2, fun k i hk hi => ?_⟩
  rw [e3 k i hk hi]
  have e : (((Y : Int) - (R : Int)).toNat ≤ k ∧ k ≤ min 31 (Y + R) ∧ ad i X * ad i X + ad k Y * ad k Y ≤ R * R) ↔ ad i X * ad i X + ad k Y * ad k Y ≤ R * R := ⟨fun y => y.2.2, fun y => by
    have h : ad k Y ≤ R := by
      by_cases z : ad k Y ≤ R
      · exact z
      · have := Nat.mul_le_mul (show R + 1 ≤ ad k Y by omega) (show R + 1 ≤ ad k Y by omega)
        have : R * R < (R + 1) * (R + 1) := Nat.mul_lt_mul_of_lt_of_lt (Nat.lt_succ_self R) (Nat.lt_succ_self R)
        omega
    unfold ad at h
    exact ⟨by omega, by omega, y⟩⟩
  rw [decide_eq_decide.mpr e]
end PA
/-! ===== pure: AREA of the class (behind pf) ===== -/
section PG
variable {I : Nat → Int32} {J : Nat → Int64} {rj : Nat → Nat → Int64} {rq : Nat → Nat → Option Nat}
/-- a place (i, k) is not farther than R from CELL c -/
def NRg (r : Nat → Nat → Int32) (R c k i : Nat) : Prop := ad i (r 71 c).toInt.toNat * ad i (r 71 c).toInt.toNat + ad k (r 72 c).toInt.toNat * ad k (r 72 c).toInt.toNat ≤ R * R
theorem ca_65 {r : Nat → Nat → Int32} : ∀ (n : Nat) (acc x : Int32) (s k : Nat), acc.toInt = (s : Int) → x.toInt = (k : Int) → k ≤ 32 → s ≤ 32 * k → 32 - k < n → ∃ y : Int32, g_X2_countArea_L65 I J rj rq r n acc x = (y, I, J, r, rj, rq) ∧ y.toInt = ((s + smF (fun k => cnF (b3 (r 82 k)) 0 32) k (32 - k) : Nat) : Int) := by
  have k32 : (32 : Int32).toInt = ((32 : Nat) : Int) := by decide
  intro n
  induction n with
  | zero => intro _ _ _ _ _ _ _ _ h; exact absurd h (Nat.not_lt_zero _)
  | succ n ih =>
    intro acc x s k ha hx hk hs hn
    rw [g_X2_countArea_L65_e]
    try simp only [↓ap1_n]
    by_cases q : (32 : Int32) ≤ x
    · have q1 := (le_n k32 hx).mp q
      have e : 32 - k = 0 := by omega
      rw [if_pos q, e]
      exact ⟨acc, rfl, ha⟩
    · have q1 : ¬ 32 ≤ k := fun z => q ((le_n k32 hx).mpr z)
      rw [if_neg q, at_n hx]
      have l := cnF_le (f := b3 (r 82 k)) 32 0
      have s1 := i_add ha (pc_v (r 82 k)) (by omega) (by omega)
      obtain ⟨y, e1, e2⟩ := ih (acc + g_J6_bitCount_0f7a4 (r 82 k)) (x + Int32.ofInt 1) (s + cnF (b3 (r 82 k)) 0 32) (k + 1) (s1.trans (by omega)) (up_i hx (by omega)) (by omega) (by omega) (by omega)
      refine ⟨y, e1, e2.trans ?_⟩
      have e : 32 - k = 32 - (k + 1) + 1 := by omega
      rw [e]
      show ((s + cnF (b3 (r 82 k)) 0 32 + smF (fun k => cnF (b3 (r 82 k)) 0 32) (k + 1) (32 - (k + 1)) : Nat) : Int) = ((s + (cnF (b3 (r 82 k)) 0 32 + smF (fun k => cnF (b3 (r 82 k)) 0 32) (k + 1) (32 - (k + 1))) : Nat) : Int)
      rw [Nat.add_assoc]
theorem ca_16 {a0 : Int64} {a1 : Int32} {R N : Nat} (hR : a1.toInt = (R : Int)) (hR2 : R ≤ 20) (hN : (I 65).toInt = (N : Int)) (hN2 : N ≤ 40) : ∀ (n : Nat) (x : Int32) (c : Nat) (r : Nat → Nat → Int32), x.toInt = (c : Int) → c ≤ N → N - c < n → (∀ i, i ≤ R → ∃ w : Nat, (r 83 i).toInt = (w : Int) ∧ w ≤ 20 ∧ GW R i w) → (∀ c, c < N → (0 ≤ (r 71 c).toInt ∧ (r 71 c).toInt ≤ 31) ∧ (0 ≤ (r 72 c).toInt ∧ (r 72 c).toInt ≤ 31)) → ∃ (y : Int32) (r' : Nat → Nat → Int32), g_X2_countArea_L16 a0 a1 I J rj rq n x r = (y, I, J, r', rj, rq) ∧ (∀ t, t ≠ 82 → r' t = r t) ∧ y.toInt = ((smF (fun k => cnF (b3 (r' 82 k)) 0 32) 0 32 : Nat) : Int) ∧ ∀ k i, k < 32 → i < 32 → (b3 (r' 82 k) i = true ↔ b3 (r 82 k) i = true ∨ ∃ c', c ≤ c' ∧ c' < N ∧ hb a0 c' = true ∧ NRg r R c' k i) := by
  have k0 : (0 : Int32).toInt = 0 := by decide
  intro n
  induction n with
  | zero => intro _ _ _ _ _ h; exact absurd h (Nat.not_lt_zero _)
  | succ n ih =>
    intro x c r hx hc hn hW hP
    rw [g_X2_countArea_L16_e]
    try simp only [↓ap1_n, g_X2_countArea_K53]
    by_cases q : I 65 ≤ x
    · have q1 := (le_n hN hx).mp q
      rw [if_pos q]
      obtain ⟨y, e1, e2⟩ := ca_65 (I := I) (J := J) (rj := rj) (rq := rq) (r := r) ((32 - (0 : Int32).toInt).toNat + 1) 0 0 0 0 k0 k0 (by omega) (by omega) (by rw [k0]; omega)
      refine ⟨y, r, e1, fun _ _ => rfl, e2.trans (by rw [Nat.zero_add]), fun k i _ _ => ⟨fun h => Or.inl h, fun h => ?_⟩⟩
      rcases h with h | ⟨c', h1, h2, _⟩
      · exact h
      · exact absurd h2 (by omega)
    · have q1 : ¬ N ≤ c := fun z => q ((le_n hN hx).mpr z)
      rw [if_neg q, hasBit_v (c := x) (by omega) (by omega), at_n hx]
      by_cases b : hb a0 c = true
      · rw [if_pos b, if_neg (show ¬ (1 : Int32) = 0 by decide)]
        obtain ⟨⟨p1, p2⟩, ⟨p3, p4⟩⟩ := hP c (by omega)
        obtain ⟨r1, e1, e2, e3⟩ := mark_v (I := I) (J := J) (rj := rj) (rq := rq) (a0 := r 71 c) (a1 := r 72 c) (X := (r 71 c).toInt.toNat) (Y := (r 72 c).toInt.toNat) (by omega) (by omega) (by omega) (by omega) hR hR2 hW
        rw [bv_n e1]
        have n83 := e2 83 (by decide)
        have n71 := e2 71 (by decide)
        have n72 := e2 72 (by decide)
        obtain ⟨y, r', f1, f2, f3, f4⟩ := ih (x + Int32.ofInt 1) (c + 1) r1 (up_i hx (by omega)) (by omega) (by omega) (by rw [n83]; exact hW) (by rw [n71, n72]; exact hP)
        refine ⟨y, r', f1, fun t h => (f2 t h).trans (e2 t h), f3, fun k i hk hi => ?_⟩
        have nr : ∀ c', NRg r1 R c' k i ↔ NRg r R c' k i := fun c' => by unfold NRg; rw [n71, n72]
        rw [f4 k i hk hi, e3 k i hk hi, Bool.or_eq_true, decide_eq_true_iff]
        constructor
        · rintro ((h | h) | ⟨c', h1, h2, h3, h4⟩)
          · exact Or.inl h
          · exact Or.inr ⟨c, Nat.le_refl _, by omega, b, h⟩
          · exact Or.inr ⟨c', by omega, h2, h3, (nr c').mp h4⟩
        · rintro (h | ⟨c', h1, h2, h3, h4⟩)
          · exact Or.inl (Or.inl h)
          · by_cases z : c' = c
            · rw [z] at h4
              exact Or.inl (Or.inr h4)
            · exact Or.inr ⟨c', by omega, h2, h3, (nr c').mpr h4⟩
      · rw [if_neg b, if_pos (show (0 : Int32) = 0 from rfl)]
        obtain ⟨y, r', f1, f2, f3, f4⟩ := ih (x + Int32.ofInt 1) (c + 1) r (up_i hx (by omega)) (by omega) (by omega) hW hP
        refine ⟨y, r', f1, f2, f3, fun k i hk hi => ?_⟩
        rw [f4 k i hk hi]
        constructor
        · rintro (h | ⟨c', h1, h2, h3, h4⟩)
          · exact Or.inl h
          · exact Or.inr ⟨c', by omega, h2, h3, h4⟩
        · rintro (h | ⟨c', h1, h2, h3, h4⟩)
          · exact Or.inl h
          · by_cases z : c' = c
            · rw [z] at h3
              exact absurd h3 b
            · exact Or.inr ⟨c', by omega, h2, h3, h4⟩
/-- how many places AREA has -/
theorem area_c {a0 : Int64} {a1 : Int32} {R N : Nat} (hR : a1.toInt = (R : Int)) (hR2 : R ≤ 20) (hN : (I 65).toInt = (N : Int)) (hN2 : N ≤ 40) {r : Nat → Nat → Int32} (hP : ∀ c, c < N → (0 ≤ (r 71 c).toInt ∧ (r 71 c).toInt ≤ 31) ∧ (0 ≤ (r 72 c).toInt ∧ (r 72 c).toInt ≤ 31)) (f : Nat → Bool) (hf : ∀ k i, k < 32 → i < 32 → (f (32 * k + i) = true ↔ ∃ c, c < N ∧ hb a0 c = true ∧ NRg r R c k i)) : ∃ (y : Int32) (r' : Nat → Nat → Int32), g_X2_countArea a0 a1 I J r rj rq = (y, I, J, r', rj, rq) ∧ (∀ t, t ≠ 82 → t ≠ 83 → r' t = r t) ∧ y.toInt = (cnF f 0 1024 : Int) := by
  have k0 : (0 : Int32).toInt = 0 := by decide
  rw [g_X2_countArea_e]
  simp only [↓ap1_n]
  obtain ⟨r1, e1, e2, e3⟩ := measure_v (I := I) (J := J) (rj := rj) (rq := rq) hR hR2 (r := va_up r 82 (fil 0 32 (r 82)))
  rw [bv_n e1]
  have s : ∀ t, t ≠ 82 → t ≠ 83 → r1 t = r t := fun t h1 h2 => (e2 t h2).trans (va_up_ne _ _ h1)
  obtain ⟨y, r', f1, f2, f3, f4⟩ := ca_16 (I := I) (J := J) (rj := rj) (rq := rq) (a0 := a0) hR hR2 hN hN2 ((40 - (0 : Int32).toInt).toNat + 1) 0 0 r1 k0 (Nat.zero_le _) (by rw [k0]; omega) e3 (by rw [s 71 (by decide) (by decide), s 72 (by decide) (by decide)]; exact hP)
  refine ⟨y, r', f1, fun t h1 h2 => (f2 t h1).trans (s t h1 h2), ?_⟩
  have z : ∀ k i, k < 32 → i < 32 → b3 (r1 82 k) i = false := fun k i hk hi => by
    rw [e2 82 (by decide), va_up_self]
    unfold fil
    rw [if_pos hk]
    exact b_0 i
  have g := cnF_32 (f := f) 32 0
  rw [f3]
  have h : smF (fun k => cnF (b3 (r' 82 k)) 0 32) 0 32 = smF (fun k => cnF f (32 * k) 32) 0 32 := smF_cg 32 0 (fun k _ hk => cnF_cg 32 0 (32 * k) (fun i hi => by
    rw [Nat.zero_add]
    have h1 := f4 k i (by omega) hi
    have h2 := hf k i (by omega) hi
    rw [z k i (by omega) hi] at h1
    have n71 := s 71 (by decide) (by decide)
    have n72 := s 72 (by decide) (by decide)
    rw [Bool.eq_iff_iff, h1, h2]
    constructor
    · rintro (w | ⟨c, _, w1, w2, w3⟩)
      · exact absurd w (by decide)
      · exact ⟨c, w1, w2, by unfold NRg at w3 ⊢; rw [n71, n72] at w3; exact w3⟩
    · rintro ⟨c, w1, w2, w3⟩
      exact Or.inr ⟨c, Nat.zero_le _, w1, w2, by unfold NRg at w3 ⊢; rw [n71, n72]; exact w3⟩))
  rw [h, ← g]
end PG
/-! ===== pure: AREA of the reference (behind pf) ===== -/
section PM
variable {U : Nat → Int32} {V : Nat → Int64} {si : Nat → Nat → Int32} {sj : Nat → Nat → Int64} {sq : Nat → Nat → Option Nat}
theorem ca_m2 {x : Int32} {c : Nat} (hx : x.toInt = (c : Int)) (hc : c ≤ 40) : g_X12_cellAt_c2 x U V si sj sq = (si 384 (100 + 16 * c + 2), U, V, si, sj, sq) := by
  rw [g_X12_cellAt_c2_e]
  simp only [↓ap1_n]
  have m1 := i_mul (show (16 : Int32).toInt = 16 by decide) hx (by omega) (by omega)
  have m2 := i_add (show (100 : Int32).toInt = 100 by decide) m1 (by omega) (by omega)
  have m3 := i_add m2 (show (2 : Int32).toInt = 2 by decide) (by omega) (by omega)
  rw [at_n (p := 100 + 16 * c + 2) (m3.trans (by omega))]
theorem ca_m3 {x : Int32} {c : Nat} (hx : x.toInt = (c : Int)) (hc : c ≤ 40) : g_X12_cellAt_c3 x U V si sj sq = (si 384 (100 + 16 * c + 3), U, V, si, sj, sq) := by
  rw [g_X12_cellAt_c3_e]
  simp only [↓ap1_n]
  have m1 := i_mul (show (16 : Int32).toInt = 16 by decide) hx (by omega) (by omega)
  have m2 := i_add (show (100 : Int32).toInt = 100 by decide) m1 (by omega) (by omega)
  have m3 := i_add m2 (show (3 : Int32).toInt = 3 by decide) (by omega) (by omega)
  rw [at_n (p := 100 + 16 * c + 3) (m3.trans (by omega))]
theorem sq_d {x : Int32} {a b : Nat} (h : x.toInt = (a : Int) - (b : Int)) (ha : a ≤ 100) (hb : b ≤ 100) : (x * x).toInt = ((ad a b * ad a b : Nat) : Int) := by
  have d : (a : Int) - (b : Int) = (ad a b : Int) ∨ (a : Int) - (b : Int) = -(ad a b : Int) := by unfold ad; omega
  have l : ad a b ≤ 100 := by unfold ad; omega
  have l2 := Nat.mul_le_mul l l
  have e : ((a : Int) - (b : Int)) * ((a : Int) - (b : Int)) = ((ad a b * ad a b : Nat) : Int) := by
    rcases d with d | d
    · rw [d, Int.natCast_mul]
    · rw [d, Int.neg_mul_neg, Int.natCast_mul]
  have := i_mul h h (by rw [e]; omega) (by rw [e]; omega)
  rw [this, e]
/-- a place is not farther than R from CELL c -/
def NM (A : Nat → Int32) (R c k i : Nat) : Prop := ad i (A (100 + 16 * c + 2)).toInt.toNat * ad i (A (100 + 16 * c + 2)).toInt.toNat + ad k (A (100 + 16 * c + 3)).toInt.toNat * ad k (A (100 + 16 * c + 3)).toInt.toNat ≤ R * R
theorem div_32 {x : Int32} {p : Nat} (hx : x.toInt = (p : Int)) (hp : p ≤ 100000) : (x / 32).toInt = ((p / 32 : Nat) : Int) := by
  rw [Int32.toInt_div_of_ne_right _ _ (show (32 : Int32) ≠ -1 by decide), hx, show (32 : Int32).toInt = 32 by decide, Int.tdiv_eq_ediv_of_nonneg (by omega)]
  omega
theorem ar_44 {x19 : Int32} {N R : Nat} (hN : (si 384 2).toInt = (N : Int)) (hN2 : N ≤ 40) (hR : (si 384 16).toInt = (R : Int)) (hR2 : R ≤ 20) (rk : Nat → Bool) (hk : ∀ (x : Int32) (c : Nat), x.toInt = (c : Int) → c < N → g_X12_wasRock x x19 U V si sj sq = ((if rk c = true then 1 else 0), U, V, si, sj, sq)) (hP : ∀ c, c < N → (0 ≤ (si 384 (100 + 16 * c + 2)).toInt ∧ (si 384 (100 + 16 * c + 2)).toInt ≤ 31) ∧ (0 ≤ (si 384 (100 + 16 * c + 3)).toInt ∧ (si 384 (100 + 16 * c + 3)).toInt ≤ 31)) {p : Nat} {xa xp : Int32} (hp : xp.toInt = (p : Int)) (hp2 : p < 1024) {k : Int32 → Int32 → Int32 × vM} : ∀ (n : Nat) (b x : Int32) (c : Nat), x.toInt = (c : Int) → c ≤ N → N - c < n → (b = 0 ∨ b = 1) → ∃ b' : Int32, (b' = 0 ∨ b' = 1) ∧ g_X12_areaOf_L44 U V si sj sq x19 xa xp k n b x = k (xa + b') (xp + Int32.ofInt 1) ∧ (b' = 1 ↔ b = 1 ∨ ∃ c', c ≤ c' ∧ c' < N ∧ rk c' = true ∧ NM (si 384) R c' (p / 32) (p % 32)) := by
  have n16 : (16 : Int32).toNatClampNeg = 16 := by decide
  have k142 : ∀ b : Int32, (b = 0 ∨ b = 1) → g_X12_areaOf_K142 xa xp k b = k (xa + b) (xp + Int32.ofInt 1) := fun b hb => by
    rw [g_X12_areaOf_K142_e]
    rcases hb with h | h
    · rw [h, if_pos rfl]; rfl
    · rw [h, if_neg (show ¬ (1 : Int32) = 0 by decide)]; rfl
  intro n
  induction n with
  | zero => intro _ _ _ _ _ h; exact absurd h (Nat.not_lt_zero _)
  | succ n ih =>
    intro b x c hx hc hn hb
    rw [g_X12_areaOf_L44_e]
    simp only [↓ap1_n, n16, g_X12_areaOf_K133, g_X12_areaOf_K134, g_X12_areaOf_K134_2]
    by_cases q : si 384 2 ≤ x
    · have q1 := (le_n hN hx).mp q
      rw [if_pos q]
      refine ⟨b, hb, k142 b hb, fun h => Or.inl h, fun h => ?_⟩
      rcases h with h | ⟨c', h1, h2, _⟩
      · exact h
      · exact absurd h2 (by omega)
    · have q1 : ¬ N ≤ c := fun z => q ((le_n hN hx).mpr z)
      rw [if_neg q]
      rcases hb with b0 | b0
      · -- none yet
        rw [if_pos b0]
        obtain ⟨⟨p1, p2⟩, ⟨p3, p4⟩⟩ := hP c (by omega)
        rw [bn_n (ca_m2 hx (by omega)), bn_n (ca_m3 hx (by omega))]
        have d1 := div_32 hp (by omega)
        have d2 : (xp / 32 * 32).toInt = ((p / 32 * 32 : Nat) : Int) := by
          have := i_mul d1 (show (32 : Int32).toInt = 32 by decide) (by omega) (by omega)
          rw [this]; omega
        have d3 : (xp - xp / 32 * 32).toInt = ((p % 32 : Nat) : Int) := by
          have := i_sub hp d2 (by omega) (by omega)
          rw [this]; omega
        obtain ⟨X, hX⟩ : ∃ X : Nat, (si 384 (100 + 16 * c + 2)).toInt = (X : Int) := ⟨(si 384 (100 + 16 * c + 2)).toInt.toNat, by omega⟩
        obtain ⟨Y, hY⟩ : ∃ Y : Nat, (si 384 (100 + 16 * c + 3)).toInt = (Y : Int) := ⟨(si 384 (100 + 16 * c + 3)).toInt.toNat, by omega⟩
        have s1 := sq_d (a := p % 32) (b := X) (i_sub d3 hX (by omega) (by omega)) (by omega) (by omega)
        have s2 := sq_d (a := p / 32) (b := Y) (i_sub d1 hY (by omega) (by omega)) (by omega) (by omega)
        have s3 := sq_i hR (by omega)
        have l1 : ad (p % 32) X ≤ 31 := by unfold ad; omega
        have l2 : ad (p / 32) Y ≤ 31 := by unfold ad; omega
        have l3 := Nat.mul_le_mul l1 l1
        have l4 := Nat.mul_le_mul l2 l2
        have s4 := i_add s1 s2 (by omega) (by omega)
        have nm : NM (si 384) R c (p / 32) (p % 32) ↔ ad (p % 32) X * ad (p % 32) X + ad (p / 32) Y * ad (p / 32) Y ≤ R * R := by
          unfold NM
          rw [hX, hY, Int.toNat_natCast, Int.toNat_natCast]
        generalize (xp - xp / 32 * 32 - si 384 (100 + 16 * c + 2)) * (xp - xp / 32 * 32 - si 384 (100 + 16 * c + 2)) + (xp / 32 - si 384 (100 + 16 * c + 3)) * (xp / 32 - si 384 (100 + 16 * c + 3)) = D at s4 ⊢
        have far : si 384 16 * si 384 16 < D ↔ ¬ NM (si 384) R c (p / 32) (p % 32) := by
          rw [nm, Int32.lt_iff_toInt_lt, s3, s4]
          omega
        have skip : ¬ (rk c = true ∧ NM (si 384) R c (p / 32) (p % 32)) → ∃ b' : Int32, (b' = 0 ∨ b' = 1) ∧ g_X12_areaOf_L44 U V si sj sq x19 xa xp k n 0 (x + Int32.ofInt 1) = k (xa + b') (xp + Int32.ofInt 1) ∧ (b' = 1 ↔ b = 1 ∨ ∃ c', c ≤ c' ∧ c' < N ∧ rk c' = true ∧ NM (si 384) R c' (p / 32) (p % 32)) := fun hno => by
          obtain ⟨b', e1, e2, e3⟩ := ih 0 (x + Int32.ofInt 1) (c + 1) (up_i hx (by omega)) (by omega) (by omega) (Or.inl rfl)
          refine ⟨b', e1, e2, e3.trans ⟨fun h => ?_, fun h => ?_⟩⟩
          · rcases h with h | ⟨c', h1, h2, h3⟩
            · exact absurd h (by decide)
            · exact Or.inr ⟨c', by omega, h2, h3⟩
          · rcases h with h | ⟨c', h1, h2, h3⟩
            · rw [b0] at h; exact absurd h (by decide)
            · by_cases z : c' = c
              · rw [z] at h3; exact absurd h3 hno
              · exact Or.inr ⟨c', by omega, h2, h3⟩
        by_cases f : si 384 16 * si 384 16 < D
        · rw [if_pos f]
          exact skip (fun z => far.mp f z.2)
        · rw [if_neg f, bn_n (hk x c hx (by omega))]
          by_cases r : rk c = true
          · rw [if_pos r, if_neg (show ¬ (1 : Int32) = 0 by decide)]
            obtain ⟨b', e1, e2, e3⟩ := ih 1 (x + Int32.ofInt 1) (c + 1) (up_i hx (by omega)) (by omega) (by omega) (Or.inr rfl)
            refine ⟨b', e1, e2, fun _ => Or.inr ⟨c, Nat.le_refl _, by omega, r, ?_⟩, fun _ => e3.mpr (Or.inl rfl)⟩
            by_cases z : NM (si 384) R c (p / 32) (p % 32)
            · exact z
            · exact absurd (far.mpr z) f
          · rw [if_neg r, if_pos (show (0 : Int32) = 0 from rfl)]
            exact skip (fun z => r z.1)
      · rw [if_neg (show ¬ b = 0 by rw [b0]; decide)]
        exact ⟨b, Or.inr b0, k142 b (Or.inr b0), fun h => Or.inl h, fun _ => b0⟩
theorem ar_30 {x19 : Int32} {N R : Nat} (hN : (si 384 2).toInt = (N : Int)) (hN2 : N ≤ 40) (hR : (si 384 16).toInt = (R : Int)) (hR2 : R ≤ 20) (rk : Nat → Bool) (hk : ∀ (x : Int32) (c : Nat), x.toInt = (c : Int) → c < N → g_X12_wasRock x x19 U V si sj sq = ((if rk c = true then 1 else 0), U, V, si, sj, sq)) (hP : ∀ c, c < N → (0 ≤ (si 384 (100 + 16 * c + 2)).toInt ∧ (si 384 (100 + 16 * c + 2)).toInt ≤ 31) ∧ (0 ≤ (si 384 (100 + 16 * c + 3)).toInt ∧ (si 384 (100 + 16 * c + 3)).toInt ≤ 31)) (f : Nat → Bool) (hf : ∀ p, p < 1024 → (f p = true ↔ ∃ c, c < N ∧ rk c = true ∧ NM (si 384) R c (p / 32) (p % 32))) : ∀ (n : Nat) (a x : Int32) (s p : Nat), a.toInt = (s : Int) → x.toInt = (p : Int) → p ≤ 1024 → s ≤ p → 1024 - p < n → ∃ y : Int32, g_X12_areaOf_L30 U V si sj sq x19 n a x = (y, U, V, si, sj, sq) ∧ y.toInt = ((s + cnF f p (1024 - p) : Nat) : Int) := by
  have k0 : (0 : Int32).toInt = 0 := by decide
  have k1024 : (1024 : Int32).toInt = ((1024 : Nat) : Int) := by decide
  intro n
  induction n with
  | zero => intro _ _ _ _ _ _ _ _ h; exact absurd h (Nat.not_lt_zero _)
  | succ n ih =>
    intro a x s p ha hx hp hs hn
    rw [g_X12_areaOf_L30_e]
    by_cases q : (1024 : Int32) ≤ x
    · have q1 := (le_n k1024 hx).mp q
      have e : 1024 - p = 0 := by omega
      rw [if_pos q, e]
      exact ⟨a, rfl, ha⟩
    · have q1 : ¬ 1024 ≤ p := fun z => q ((le_n k1024 hx).mpr z)
      rw [if_neg q]
      obtain ⟨b, b1, b2, b3⟩ := ar_44 (U := U) (V := V) (si := si) (sj := sj) (sq := sq) hN hN2 hR hR2 rk hk hP hx (by omega) (xa := a) (k := g_X12_areaOf_L30 U V si sj sq x19 n) ((40 - (0 : Int32).toInt).toNat + 1) 0 0 0 k0 (Nat.zero_le _) (by rw [k0]; omega) (Or.inl rfl)
      rw [b2]
      have up : (x + Int32.ofInt 1).toInt = ((p + 1 : Nat) : Int) := by
        have := i_add hx (show (Int32.ofInt 1).toInt = 1 by decide) (by omega) (by omega)
        rw [this]; omega
      have e : 1024 - p = 1024 - (p + 1) + 1 := by omega
      rw [e]
      have fp : f p = true ↔ b = 1 := (hf p (by omega)).trans ⟨fun ⟨c, h1, h2⟩ => b3.mpr (Or.inr ⟨c, Nat.zero_le _, h1, h2⟩), fun h => by
        rcases b3.mp h with z | ⟨c, _, z1, z2⟩
        · exact absurd z (by decide)
        · exact ⟨c, z1, z2⟩⟩
      show ∃ y : Int32, g_X12_areaOf_L30 U V si sj sq x19 n (a + b) (x + Int32.ofInt 1) = (y, U, V, si, sj, sq) ∧ y.toInt = ((s + ((if f p = true then 1 else 0) + cnF f (p + 1) (1024 - (p + 1))) : Nat) : Int)
      rcases b1 with z | z
      · have nf : ¬ f p = true := fun h => by
          have := fp.mp h
          rw [z] at this
          exact absurd this (by decide)
        obtain ⟨y, e1, e2⟩ := ih (a + b) (x + Int32.ofInt 1) s (p + 1) (by rw [z, i_add ha k0 (by omega) (by omega)]; omega) up (by omega) (by omega) (by omega)
        rw [if_neg nf]
        exact ⟨y, e1, e2.trans (by rw [Nat.zero_add])⟩
      · obtain ⟨y, e1, e2⟩ := ih (a + b) (x + Int32.ofInt 1) (s + 1) (p + 1) (by rw [z, i_add ha (show (1 : Int32).toInt = 1 by decide) (by omega) (by omega)]; omega) up (by omega) (by omega) (by omega)
        rw [if_pos (fp.mpr z)]
        exact ⟨y, e1, e2.trans (by rw [Nat.add_assoc])⟩
/-- AREA of the reference in the MONTH x19 -/
theorem area_m {x19 : Int32} {N R : Nat} (hN : (si 384 2).toInt = (N : Int)) (hN2 : N ≤ 40) (hR : (si 384 16).toInt = (R : Int)) (hR2 : R ≤ 20) (rk : Nat → Bool) (hk : ∀ (x : Int32) (c : Nat), x.toInt = (c : Int) → c < N → g_X12_wasRock x x19 U V si sj sq = ((if rk c = true then 1 else 0), U, V, si, sj, sq)) (hP : ∀ c, c < N → (0 ≤ (si 384 (100 + 16 * c + 2)).toInt ∧ (si 384 (100 + 16 * c + 2)).toInt ≤ 31) ∧ (0 ≤ (si 384 (100 + 16 * c + 3)).toInt ∧ (si 384 (100 + 16 * c + 3)).toInt ≤ 31)) (f : Nat → Bool) (hf : ∀ p, p < 1024 → (f p = true ↔ ∃ c, c < N ∧ rk c = true ∧ NM (si 384) R c (p / 32) (p % 32))) : ∃ y : Int32, g_X12_areaOf_K23 U V si sj sq x19 = (y, U, V, si, sj, sq) ∧ y.toInt = (cnF f 0 1024 : Int) := by
  have k0 : (0 : Int32).toInt = 0 := by decide
  rw [g_X12_areaOf_K23_e]
  obtain ⟨y, e1, e2⟩ := ar_30 (U := U) (V := V) (si := si) (sj := sj) (sq := sq) hN hN2 hR hR2 rk hk hP f hf ((1024 - (0 : Int32).toInt).toNat + 1) 0 0 0 0 k0 k0 (by omega) (Nat.le_refl _) (by rw [k0]; omega)
  exact ⟨y, e1, e2.trans (by rw [Nat.zero_add])⟩
end PM
/-! ===== pure: which CELLS were ROCK, by the reference (behind pm, pr12) ===== -/
section PW
variable {U : Nat → Int32} {V : Nat → Int64} {si : Nat → Nat → Int32} {sj : Nat → Nat → Int64} {sq : Nat → Nat → Option Nat}
def rkA (A : Nat → Int32) (f c : Nat) : Bool := if c < 20 then b3 (A (2520 + 2 * f)) c else b3 (A (2520 + 2 * f + 1)) (c - 20)
theorem wr_m {x x19 : Int32} {c f : Nat} (hx : x.toInt = (c : Int)) (hc : c < 40) (hf : x19.toInt = (f : Int)) (hf2 : f ≤ 600) : g_X12_wasRock x x19 U V si sj sq = ((if rkA (si 384) f c = true then 1 else 0), U, V, si, sj, sq) := by
  have k20 : (20 : Int32).toInt = ((20 : Nat) : Int) := by decide
  have m1 := i_mul (show (2 : Int32).toInt = 2 by decide) hf (by omega) (by omega)
  have m2 := i_add (show (2520 : Int32).toInt = 2520 by decide) m1 (by omega) (by omega)
  have m3 := i_add m2 (show (1 : Int32).toInt = 1 by decide) (by omega) (by omega)
  have fin : ∀ (w : Int32) (s : Nat) (y : Int32), s < 32 → y.toInt = (s : Int) → g_X12_wasRock_K42 U V si sj sq (w >>> (y &&& 31)) = ((if b3 w s = true then 1 else 0), U, V, si, sj, sq) := fun w s y hs hy => by
    rw [g_X12_wasRock_K42_e]
    simp only [↓ap1_n]
    rw [to_nI hy (by omega)]
    by_cases b : b3 w s = true
    · rw [if_pos ((tb_1 hs w).mpr b), if_pos b]
    · rw [if_neg (fun z => b ((tb_1 hs w).mp z)), if_neg b]
  rw [g_X12_wasRock_e]
  simp only [↓ap1_n]
  unfold rkA
  by_cases q : (20 : Int32) ≤ x
  · have q1 := (le_n k20 hx).mp q
    rw [if_pos q, at_n (p := 2520 + 2 * f + 1) (m3.trans (by omega)), if_neg (show ¬ c < 20 by omega)]
    exact fin _ (c - 20) _ (by omega) ((i_sub hx k20 (by omega) (by omega)).trans (by omega))
  · have q1 : ¬ 20 ≤ c := fun z => q ((le_n k20 hx).mpr z)
    rw [if_neg q, at_n (p := 2520 + 2 * f) (m2.trans (by omega)), if_pos (show c < 20 by omega)]
    exact fin _ c x (by omega) hx
end PW
