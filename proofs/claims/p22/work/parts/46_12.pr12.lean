/-! ===== pure: a CLAUSE, both sides ===== -/
section PR12
variable {J : Nat → Int64} {rj : Nat → Nat → Int64} {rq : Nat → Nat → Option Nat} {mj : Nat → Nat → Int64} {mq : Nat → Nat → Option Nat}
/-! which sorts came: the reference's bits, the class's row -/
theorem b1_0 : ∀ i, i < 32 → b3 1 i = decide (i = 0) := by unfold b3; decide +kernel
theorem tb_1 {s : Nat} (hs : s < 32) (w : Int32) : (w >>> (nI s &&& 31)) &&& 1 = 1 ↔ b3 w s = true := by
  constructor
  · intro h
    have h0 : b3 ((w >>> (nI s &&& 31)) &&& 1) 0 = b3 1 0 := by rw [h]
    rw [b_and, b_sshr s hs w (show 0 < 32 by decide), if_pos (show s + 0 < 32 by omega), b1_0 0 (by decide), Nat.add_zero] at h0
    simpa using h0
  · intro h
    apply b_ext
    intro i hi
    rw [b_and, b1_0 i hi]
    by_cases q : i = 0
    · subst q
      have e : b3 (w >>> (nI s &&& 31)) 0 = true := by
        rw [b_sshr s hs w hi, if_pos (show s + 0 < 32 by omega), Nat.add_zero]
        exact h
      rw [e, Bool.true_and]
    · rw [decide_eq_false q, Bool.and_false]
theorem b1_s : ∀ s, s < 32 → ∀ i, i < 32 → b3 ((1 : Int32) <<< (nI s &&& 31)) i = decide (i = s) := by unfold b3; decide +kernel
theorem sr_v {c : Int32} (h0 : 0 ≤ c.toInt) (h8 : c.toInt ≤ 8) : srC c = nI (c.toInt.toNat + 1) ∧ (srC c).toInt = c.toInt + 1 := by
  have d : c.toInt = 0 ∨ c.toInt = 1 ∨ c.toInt = 2 ∨ c.toInt = 3 ∨ c.toInt = 4 ∨ c.toInt = 5 ∨ c.toInt = 6 ∨ c.toInt = 7 ∨ c.toInt = 8 := by omega
  rcases d with d | d | d | d | d | d | d | d | d
  · rw [to_k (c := c) (k := 0) d (by decide)]; decide
  · rw [to_k (c := c) (k := 1) d (by decide)]; decide
  · rw [to_k (c := c) (k := 2) d (by decide)]; decide
  · rw [to_k (c := c) (k := 3) d (by decide)]; decide
  · rw [to_k (c := c) (k := 4) d (by decide)]; decide
  · rw [to_k (c := c) (k := 5) d (by decide)]; decide
  · rw [to_k (c := c) (k := 6) d (by decide)]; decide
  · rw [to_k (c := c) (k := 7) d (by decide)]; decide
  · rw [to_k (c := c) (k := 8) d (by decide)]; decide
theorem sr_0 {c : Int32} (h8 : 8 < c.toInt) : srC c = 0 := by
  have k : ∀ x : Int32, x.toInt ≤ 8 → ¬ c = x := fun x y z => by rw [z] at h8; omega
  unfold srC
  rw [if_neg (k 0 (by decide)), if_neg (k 1 (by decide)), if_neg (k 2 (by decide)), if_neg (k 3 (by decide)), if_neg (k 4 (by decide)), if_neg (k 5 (by decide)), if_neg (k 6 (by decide)), if_neg (k 7 (by decide)), if_neg (k 8 (by decide))]
theorem upN' {x : Int32} {p : Nat} (h : x.toInt = (p : Int)) (hp : p ≤ 20000) : (x + 1).toInt = ((p + 1 : Nat) : Int) := by
  have := i_add h (show (1 : Int32).toInt = 1 by decide) (by omega) (by omega)
  omega
def CAME (w : Int32) (row : Nat → Int32) (k : Nat) : Prop := ∀ a : Int32, 4 ≤ a.toInt → a.toInt ≤ 8 → (b3 w (a.toInt.toNat + 1) = true ↔ ∃ j, j < k ∧ row j = a)
theorem cam_0 {row : Nat → Int32} : CAME 0 row 0 := fun a _ _ => by
  rw [b_0]
  exact ⟨fun h => absurd h (by decide), fun ⟨_, h, _⟩ => absurd h (Nat.not_lt_zero _)⟩
theorem cam_up {w c : Int32} {row : Nat → Int32} {k : Nat} (h : CAME w row k) (h0 : 0 ≤ c.toInt) (h8 : c.toInt ≤ 8) : CAME (w ||| 1 <<< (srC c &&& 31)) (upd row k c) (k + 1) := by
  intro a ha1 ha2
  rw [b_or, (sr_v h0 h8).1, b1_s (c.toInt.toNat + 1) (by omega) (a.toInt.toNat + 1) (by omega), Bool.or_eq_true, decide_eq_true_iff, h a ha1 ha2]
  constructor
  · rintro (⟨j, j1, j2⟩ | q)
    · exact ⟨j, by omega, by rw [upd_n _ _ (by omega)]; exact j2⟩
    · exact ⟨k, Nat.lt_succ_self _, by rw [upd_s]; exact Int32.toInt_inj.mp (by omega)⟩
  · rintro ⟨j, j1, j2⟩
    by_cases q : j = k
    · right
      rw [q, upd_s] at j2
      rw [j2]
    · left
      rw [upd_n _ _ q] at j2
      exact ⟨j, by omega, j2⟩
theorem fo_L {a : Int32} {I : Nat → Int32} {ri : Nat → Nat → Int32} {k : Nat} (hk : (I 256).toInt = (k : Int)) (hk2 : k ≤ 20) : ∀ (m : Nat) (x : Int32) (j : Nat), x.toInt = (j : Int) → j ≤ k → k - j < m → (∀ i, i < j → ri 257 i ≠ a) → ∃ y : Int32, g_X8_firstOf_R_L2 a I J ri rj rq m x = (y, I, J, ri, rj, rq) ∧ (y = -1 ↔ ¬ ∃ i, i < k ∧ ri 257 i = a) := by
  intro m
  induction m with
  | zero => intro _ _ _ _ h; exact absurd h (Nat.not_lt_zero _)
  | succ m ih =>
    intro x j hx hj hm hn
    rw [g_X8_firstOf_R_L2_e]
    try simp only [↓ap1_n]
    by_cases q : I 256 ≤ x
    · have q1 := (le_n hk hx).mp q
      rw [if_pos q]
      exact ⟨-1, rfl, fun _ ⟨i, h1, h2⟩ => hn i (by omega) h2, fun _ => rfl⟩
    · have q1 : ¬ k ≤ j := fun y => q ((le_n hk hx).mpr y)
      rw [if_neg q, at_n hx]
      by_cases q2 : ri 257 j = a
      · rw [if_pos q2]
        refine ⟨x, rfl, fun y => ?_, fun y => absurd ⟨j, by omega, q2⟩ y⟩
        rw [y] at hx
        exact absurd hx (by rw [show (-1 : Int32).toInt = -1 by decide]; omega)
      · rw [if_neg q2]
        exact ih (x + Int32.ofInt 1) (j + 1) (up_i hx (by omega)) (by omega) (by omega) (fun i hi => by
          by_cases z : i = j
          · rw [z]; exact q2
          · exact hn i (by omega))
theorem fo_v {a : Int32} {I : Nat → Int32} {ri : Nat → Nat → Int32} {k : Nat} (hk : (I 256).toInt = (k : Int)) (hk2 : k ≤ 20) : ∃ y : Int32, g_X8_firstOf_R a I J ri rj rq = (y, I, J, ri, rj, rq) ∧ (y = -1 ↔ ¬ ∃ i, i < k ∧ ri 257 i = a) := by
  have k0 : (0 : Int32).toInt = 0 := by decide
  rw [g_X8_firstOf_R_e]
  exact fo_L hk hk2 _ 0 0 (by decide) (Nat.zero_le _) (by rw [k0]; omega) (fun i h => absurd h (Nat.not_lt_zero _))
/-- how the reading of a CLAUSE ends -/
def CRES (J : Nat → Int64) (rj : Nat → Nat → Int64) (rq : Nat → Nat → Option Nat) (mj : Nat → Nat → Int64) (mq : Nat → Nat → Option Nat) (n : Nat) (T : Nat → Int32) (k W : Nat) (D : (Nat → Int32) → (Nat → Nat → Int32) → (Nat → Int32) → (Nat → Nat → Int32) → Nat → Prop) (f0 : Nat → Int32) (X : vM) (Y : Int32 × vM) (tm0 : Int) : Prop := ∃ (f : Int32) (I1 : Nat → Int32) (J1 : Nat → Int64) (r1 : Nat → Nat → Int32), Y = (f, I1, J1, r1, mj, mq) ∧ ((f ≠ 0 ∧ ∃ s : Nat, (I1 392).toInt = (s : Int) ∧ FIN J rj rq f s X ∧ ∀ j, j ≤ W → r1 384 j = f0 j) ∨ (f = 0 ∧ ∃ (p2 : Nat) (c2 v2 : Int32) (s2 e2 : Nat) (P2 : List Int32) (If : Nat → Int32) (rf : Nat → Nat → Int32), TKC T n p2 c2 s2 e2 v2 ∧ RST n T c2 v2 s2 e2 P2 0 I1 J1 r1 ∧ X = (If, J, rf, rj, rq) ∧ PST n p2 T If rf ∧ (k ≤ 19 ∧ (If 256).toInt = ((k + 1 : Nat) : Int) ∧ (I1 397).toInt = ((k + 1 : Nat) : Int) ∧ CAME (I1 399) (rf 257) (k + 1) ∧ (I1 396).toInt = (W : Int)) ∧ tmM (I1 391).toInt (I1 393).toInt < tm0 ∧ D If rf I1 r1 p2))
theorem RST_f2 {n : Nat} {T : Nat → Int32} {c v : Int32} {s e : Nat} {P : List Int32} {o : Nat} {I I' : Nat → Int32} {J1 : Nat → Int64} {r r' : Nat → Nat → Int32} (h : RST n T c v s e P o I J1 r) (hI : ∀ f, f ≠ 397 → f ≠ 398 → f ≠ 399 → I' f = I f) (hr : ∀ q, q ≠ 384 → r' q = r q) : RST n T c v s e P o I' J1 r' := by
  obtain ⟨⟨a1, a2⟩, ⟨b1, b2, b3⟩, ⟨c1, c2⟩, d1⟩ := h
  have z : ∀ f, f < 397 ∨ 399 < f → I' f = I f := fun f hf => hI f (by omega) (by omega) (by omega)
  exact ⟨⟨by rw [z 388 (by decide)]; exact a1, by rw [hr 387 (by decide)]; exact a2⟩, ⟨by rw [z 391 (by decide)]; exact b1, by rw [z 392 (by decide)]; exact b2, TKF_fr b3 (z 393 (by decide)) (z 394 (by decide))⟩, ⟨by rw [z 401 (by decide)]; exact c1, by rw [hr 400 (by decide)]; exact c2⟩, by rw [z 402 (by decide)]; exact d1⟩
/-- ; behind what was read -/
theorem FS_2 {I : Nat → Int32} {r : Nat → Nat → Int32} : (FS I r).2 = r 384 := rfl
theorem close {C D : (Nat → Int32) → (Nat → Nat → Int32) → (Nat → Int32) → (Nat → Nat → Int32) → Nat → Prop} {Z : (Nat → Int32) → (Nat → Nat → Int32) → Prop} {f0 : Nat → Int32} {n : Nat} {T : Nat → Int32} (h3 : n ≤ 300) (hb : ∀ j, j < n → 0 ≤ (T j).toInt) {k W : Nat} (hk : k ≤ 19) {X' : vM} {Y' : Int32 × vM} {tm0 : Int} (E : ERES J rj rq mj mq n T C Z X' Y' tm0) {row row8 : Nat → Int32} {w : Int32} (f256 : (X'.1 256).toInt = ((k + 1 : Nat) : Int)) (f257 : X'.2.2.1 257 = row) (f258 : X'.2.2.1 258 = row8) (g397 : (Y'.2.1 397).toInt = (k : Int)) (g399 : Y'.2.1 399 = w) (g396 : (Y'.2.1 396).toInt = (W : Int)) (cm : CAME w row (k + 1)) (R : (Nat → Int32) → (Nat → Nat → Int32) → Nat → Nat → Int32) (hR : ∀ I r q, q ≠ 384 → R I r q = r q) (hD : ∀ (If : Nat → Int32) (rf : Nat → Nat → Int32) (I1 : Nat → Int32) (r1 : Nat → Nat → Int32) (p2 p3 : Nat) (I2 : Nat → Int32), C If rf I1 r1 p2 → (If 256).toInt = ((k + 1 : Nat) : Int) → rf 257 = row → rf 258 = row8 → p2 ≤ 300 → p2 ≤ p3 → I2 398 = I1 398 → D If (va_up rf 258 (upd (rf 258) (If 256).toNatClampNeg (If 132))) I2 (R I1 r1) p3) (hZ : ∀ (I1 : Nat → Int32) (r1 : Nat → Nat → Int32), Z I1 r1 → ∀ j, j ≤ W → R I1 r1 384 j = f0 j) : CRES J rj rq mj mq n T k W D f0 (bnV X' fun (I2 : Nat → Int32) (_ : Nat → Int64) (r2 : Nat → Nat → Int32) (_ : Nat → Nat → Int64) (_ : Nat → Nat → Option Nat) => ((I2, J, va_up r2 258 (upd (r2 258) (I2 256).toNatClampNeg (I2 132)), rj, rq) : vM)) (bnI Y' fun (x : Int32) (I3 : Nat → Int32) (J3 : Nat → Int64) (r3 : Nat → Nat → Int32) (_ : Nat → Nat → Int64) (_ : Nat → Nat → Option Nat) => if x = 0 then (if I3 393 = 59 then bnV (g_X12_nextToken_x (va_up I3 397 (I3 397 + 1)) J3 (R I3 r3) mj mq) fun (I5 : Nat → Int32) (J5 : Nat → Int64) (_ : Nat → Nat → Int32) (_ : Nat → Nat → Int64) (_ : Nat → Nat → Option Nat) => (((0 : Int32), I5, J5, R I3 r3, mj, mq) : Int32 × vM) else ((1 : Int32), I3, J3, R I3 r3, mj, mq)) else (x, I3, J3, R I3 r3, mj, mq)) tm0 := by
  obtain ⟨f, I1, J1, r1, e, h⟩ := E
  subst e
  rcases h with ⟨y, s, y1, ⟨If, rf, x1, x2, x3⟩, z0⟩ | ⟨y, p2, c2, v2, s2, e2, P2, a1, a2, a3, a4⟩
  · subst x1
    rw [bv_n rfl, bn_n rfl, if_neg y]
    exact ⟨f, I1, J1, R I1 r1, rfl, Or.inl ⟨y, s, y1, ⟨If, _, rfl, x2, x3⟩, hZ _ _ z0⟩⟩
  · subst y
    have a2' := a2
    obtain ⟨⟨m1, m2⟩, ⟨m3, m4, m5⟩, ⟨m6, m7⟩, m8⟩ := a2'
    obtain ⟨t0, t18, t33, s19, s20, s21, s22, s23, s24, s25, s26, s27, s28, s29, s30, s31, s32, t2, tv, tw⟩ := m5
    have hle := TKC_le a1
    rcases a3 with ⟨c32, If, rf, x1, x2, x3, x4, x5, x6⟩ | ⟨c32, ⟨If, rf, x1, x2, x3⟩, z0⟩
    · subst x1
      rw [bv_n rfl, bn_n rfl, if_pos (show (0 : Int32) = 0 from rfl), if_pos (s32.mpr c32)]
      obtain ⟨c3, s3, e3, v3, ht3⟩ := TKC_ex T hle.2.2.1
      have hR2 : RST n T c2 v2 s2 e2 P2 0 (va_up I1 397 (I1 397 + 1)) J1 (R I1 r1) := RST_f2 a2 (fun f h1 _ _ => va_up_ne _ _ h1) (hR I1 r1)
      obtain ⟨I5, J5, f1, f2, f3⟩ := RST_n (mj := mj) (mq := mq) h3 hb hR2 hle.2.2.1 ht3
      rw [bv_n f1]
      obtain ⟨n1, n2⟩ := tm_nx h3 hR2 (by rw [c32]; decide) f2 ht3
      have z1 : va_up I1 397 (I1 397 + 1) 391 = I1 391 := va_up_ne _ _ (by decide)
      have z3 : va_up I1 397 (I1 397 + 1) 393 = I1 393 := va_up_ne _ _ (by decide)
      rw [z1, z3] at n1
      refine ⟨0, I5, J5, R I1 r1, rfl, Or.inr ⟨rfl, e2, c3, v3, s3, e3, P2, If, _, ht3, f2, rfl, ⟨x3, ?_, x5, hle.2.2.1, x2⟩, ⟨hk, f256, ?_, ?_, ?_⟩, by omega, hD If rf I1 r1 p2 e2 I5 x6 f256 f257 f258 (by omega) (by omega) ((f3 398 (by decide) (by decide) (by decide) (by decide)).trans (va_up_ne _ _ (by decide)))⟩⟩
      · rw [va_up_ne _ _ (show (192 : Nat) ≠ 258 by decide)]; exact x4
      · rw [f3 397 (by decide) (by decide) (by decide) (by decide), va_up_self]
        exact upN g397 (by omega)
      · rw [f3 399 (by decide) (by decide) (by decide) (by decide), va_up_ne _ _ (show (399 : Nat) ≠ 397 by decide), va_up_ne _ _ (show (257 : Nat) ≠ 258 by decide)]
        rw [show I1 399 = w from g399, show rf 257 = row from f257]
        exact cm
      · rw [f3 396 (by decide) (by decide) (by decide) (by decide), va_up_ne _ _ (show (396 : Nat) ≠ 397 by decide)]
        exact g396
    · subst x1
      rw [bv_n rfl, bn_n rfl, if_pos (show (0 : Int32) = 0 from rfl), if_neg (fun z => c32 (s32.mp z))]
      exact ⟨1, I1, J1, R I1 r1, rfl, Or.inl ⟨by decide, s2, m4, ⟨If, _, rfl, x2, x3⟩, hZ _ _ z0⟩⟩
theorem clause_sim {n : Nat} {T : Nat → Int32} (h3 : n ≤ 300) (hb : ∀ j, j < n → 0 ≤ (T j).toInt) {k W p : Nat} {I : Nat → Int32} {r : Nat → Nat → Int32} {c v : Int32} {s e : Nat} (hp : PST n e T I r) (g1 : I 194 = c) (g2 : (I 195).toInt = (s : Int)) (f256 : (I 256).toInt = (k : Int)) (hk : k ≤ 20) (ht : TKC T n p c s e v) {I' : Nat → Int32} {J' : Nat → Int64} {r' : Nat → Nat → Int32} {P : List Int32} (hR : RST n T c v s e P 0 I' J' r') (g397 : (I' 397).toInt = (k : Int)) (cm : CAME (I' 399) (r 257) k) (g396 : (I' 396).toInt = (W : Int)) (hW : W ≤ 20000) {M : CLs} {w : Nat} {f0 : Nat → Int32} (hM : M.length = k) (hC : CTX r M) (hRT : RTX W (r' 384) M w) (hw : w ≤ tot M) (hp0 : tot M ≤ p) (h132 : (I 132).toInt = (tot M : Int)) (h398 : (I' 398).toInt = (w : Int)) (hf0 : ∀ j, j ≤ W → r' 384 j = f0 j) : CRES J rj rq mj mq n T k W (DCL W c M f0) f0 (g_X4_readClause I J r rj rq) (g_X12_clause I' J' r' mj mq) (tmM (I' 391).toInt (I' 393).toInt) := by
  have hR' := hR
  obtain ⟨⟨a1, a2⟩, ⟨b1, b2, b3⟩, _, _⟩ := hR'
  have h0 := b3.1.1
  have k4 : (4 : Int32).toInt = 4 := by decide
  have k5 : (5 : Int32).toInt = 5 := by decide
  have k6 : (6 : Int32).toInt = 6 := by decide
  have k8 : (8 : Int32).toInt = 8 := by decide
  have k20 : (20 : Int32).toInt = ((20 : Nat) : Int) := by decide
  have k0 : (0 : Int32).toInt = 0 := by decide
  have hle := TKC_le ht
  have rf : ∀ a : Int32, a ≠ 0 → CRES J rj rq mj mq n T k W (DCL W c M f0) f0 (bnV (g_X4_refuse a I J r rj rq) fun (I1 : Nat → Int32) (_ : Nat → Int64) (_ : Nat → Nat → Int32) (_ : Nat → Nat → Int64) (_ : Nat → Nat → Option Nat) => ((I1, J, r, rj, rq) : vM)) (a, I', J', r', mj, mq) (tmM (I' 391).toInt (I' 393).toInt) := fun a ha => by
    rw [bv_n (refuse_c hp.2.2.2.2)]
    exact ⟨a, I', J', r', rfl, Or.inl ⟨ha, s, b2, ⟨_, r, rfl, refuse_1.1, by rw [refuse_1.2]; exact g2⟩, hf0⟩⟩
  rw [g_X4_readClause_e, g_X12_clause_e]
  try simp only [↓ap1_n]
  rw [bn_n (sort_m b3), g1]
  by_cases c8 : c.toInt ≤ 8
  · obtain ⟨sv1, sv2⟩ := sr_v h0 c8
    rw [if_pos (show c ≤ 8 from Int32.le_iff_toInt_le.mpr (by omega)), if_neg (show ¬ srC c = 0 from fun y => by rw [y, k0] at sv2; omega)]
    have lt20 : I 256 < 20 ↔ k < 20 := by rw [Int32.lt_iff_toInt_lt, f256, k20]; omega
    have eq20 : I' 397 = 20 ↔ k = 20 := eq_n g397 k20
    -- what is read next, both sides
    have hp1 : PST n e T (va_up I 256 (I 256 + 1)) (va_up r 257 (upd (r 257) (I 256).toNatClampNeg c)) := by
      obtain ⟨z1, z2, z3, z4, z5⟩ := hp
      exact ⟨by rw [va_up_ne _ _ (show (193 : Nat) ≠ 256 by decide)]; exact z1, by rw [va_up_ne _ _ (show (192 : Nat) ≠ 257 by decide)]; exact z2, by rw [va_up_ne _ _ (show (197 : Nat) ≠ 256 by decide)]; exact z3, z4, by rw [va_up_ne _ _ (show (129 : Nat) ≠ 256 by decide)]; exact z5⟩
    obtain ⟨c2, s2, e2, v2, ht2⟩ := TKC_ex T hle.2.2.1
    have n33 : c ≠ 33 := fun y => by rw [y] at c8; exact absurd c8 (by decide)
    have nx : ∀ (K : Nat → Int32) (rK : Nat → Nat → Int32), (∀ f, f ≠ 397 → f ≠ 398 → f ≠ 399 → K f = I' f) → (∀ q, q ≠ 384 → rK q = r' q) → ∃ (I5 : Nat → Int32) (J5 : Nat → Int64), g_X12_nextToken_x K J' rK mj mq = (I5, J5, rK, mj, mq) ∧ RST n T c2 v2 s2 e2 P 0 I5 J5 rK ∧ (∀ f, f ≠ 391 → f ≠ 392 → f ≠ 393 → f ≠ 394 → I5 f = K f) ∧ tmM (I5 391).toInt (I5 393).toInt < tmM (I' 391).toInt (I' 393).toInt := fun K rK hK hr => by
      have hR1 := RST_f2 hR hK hr
      obtain ⟨I5, J5, f1, f2, f3⟩ := RST_n (mj := mj) (mq := mq) h3 hb hR1 hle.2.2.1 ht2
      obtain ⟨n1, _⟩ := tm_nx h3 hR1 n33 f2 ht2
      rw [hK 391 (by decide) (by decide) (by decide), hK 393 (by decide) (by decide) (by decide)] at n1
      exact ⟨I5, J5, f1, f2, f3, n1⟩
    have q256 : k ≤ 19 → (va_up I 256 (I 256 + 1) 256).toInt = ((k + 1 : Nat) : Int) := fun h => by rw [va_up_self]; exact upN f256 (by omega)
    have q257 : va_up r 257 (upd (r 257) (I 256).toNatClampNeg c) 257 = upd (r 257) k c := by rw [va_up_self, at_n f256]
    have cm1 : CAME (I' 399 ||| 1 <<< (srC c &&& 31)) (upd (r 257) k c) (k + 1) := cam_up cm h0 c8
    have q258 : va_up r 257 (upd (r 257) (I 256).toNatClampNeg c) 258 = r 258 := va_up_ne _ _ (by decide)
    have hS1 : (ES (va_up I 256 (I 256 + 1)) (va_up r 257 (upd (r 257) (I 256).toNatClampNeg c))).1.toInt = (tot M : Int) := by
      show (va_up I 256 (I 256 + 1) 132).toInt = _
      rw [va_up_ne _ _ (show (132 : Nat) ≠ 256 by decide)]; exact h132
    have hS2 : (ES (va_up I 256 (I 256 + 1)) (va_up r 257 (upd (r 257) (I 256).toNatClampNeg c))).2 = r 259 := by
      show va_up r 257 (upd (r 257) (I 256).toNatClampNeg c) 259 = r 259
      exact va_up_ne _ _ (by decide)
    have hA : ∀ v : Int32, (va_up I' 399 v 396 + 1 + 12 * va_up I' 399 v 397).toInt = ((W + 1 + 12 * k : Nat) : Int) := fun v => by
      rw [va_up_ne _ _ (show (396 : Nat) ≠ 399 by decide), va_up_ne _ _ (show (397 : Nat) ≠ 399 by decide)]
      have m1 := upN' g396 hW
      have m2 := i_mul (show (12 : Int32).toInt = 12 by decide) g397 (by omega) (by omega)
      have := i_add m1 m2 (by omega) (by omega)
      omega
    have hAd : ∀ (v d : Int32) (q : Nat), d.toInt = (q : Int) → q ≤ 10 → (va_up I' 399 v 396 + 1 + 12 * va_up I' 399 v 397 + d).toNatClampNeg = W + 1 + 12 * k + q := fun v d q hd hq => at_n (by
      have := i_add (hA v) hd (by omega) (by omega)
      omega)
    have hrk : ∀ v : Int32, va_up r' 384 (upd (r' 384) (va_up I' 399 v 396 + 1 + 12 * va_up I' 399 v 397).toNatClampNeg (srC c)) 384 = upd (r' 384) (W + 1 + 12 * k) (srC c) := fun v => by rw [va_up_self, at_n (hA v)]
    have pe : tot M ≤ e := by omega
    have up9 : ∀ (v : Int32) (f : Nat), f ≠ 397 → f ≠ 398 → f ≠ 399 → va_up I' 399 v f = I' f := fun v f _ _ h => va_up_ne _ _ h
    by_cases c3 : c.toInt < 4
    · rw [if_pos (show c < 4 from Int32.lt_iff_toInt_lt.mpr (by omega)), if_pos (show srC c < 5 from Int32.lt_iff_toInt_lt.mpr (by omega))]
      by_cases hk2 : k < 20
      · rw [if_pos (lt20.mpr hk2), if_neg (show ¬ I' 397 = 20 from fun y => by have := eq20.mp y; omega)]
        obtain ⟨I5, J5, f1, f2, f3, f4⟩ := nx (va_up I' 399 (I' 399 ||| 1 <<< (srC c &&& 31))) (va_up r' 384 (upd (r' 384) ((va_up I' 399 (I' 399 ||| 1 <<< (srC c &&& 31)) 396 : Int32) + (1 : Int32) + (12 : Int32) * (va_up I' 399 (I' 399 ||| 1 <<< (srC c &&& 31)) 397 : Int32)).toNatClampNeg (srC c))) (up9 _) (fun q hq => va_up_ne r' _ hq)
        rw [bv_n f1]
        have z397 : (I5 397).toInt = (k : Int) := by rw [f3 397 (by decide) (by decide) (by decide) (by decide), va_up_ne _ _ (show (397 : Nat) ≠ 399 by decide)]; exact g397
        have z399 : I5 399 = I' 399 ||| 1 <<< (srC c &&& 31) := by rw [f3 399 (by decide) (by decide) (by decide) (by decide), va_up_self]
        have z396 : (I5 396).toInt = (W : Int) := by rw [f3 396 (by decide) (by decide) (by decide) (by decide), va_up_ne _ _ (show (396 : Nat) ≠ 399 by decide)]; exact g396
        have hR5 : RST n T c2 v2 s2 e2 P 0 I5 J5 (va_up (va_up r' 384 (upd (r' 384) ((va_up I' 399 (I' 399 ||| 1 <<< (srC c &&& 31)) 396 : Int32) + (1 : Int32) + (12 : Int32) * (va_up I' 399 (I' 399 ||| 1 <<< (srC c &&& 31)) 397 : Int32)).toNatClampNeg (srC c))) 384 (upd ((va_up r' 384 (upd (r' 384) ((va_up I' 399 (I' 399 ||| 1 <<< (srC c &&& 31)) 396 : Int32) + (1 : Int32) + (12 : Int32) * (va_up I' 399 (I' 399 ||| 1 <<< (srC c &&& 31)) 397 : Int32)).toNatClampNeg (srC c))) 384) (((va_up I' 399 (I' 399 ||| 1 <<< (srC c &&& 31)) 396 : Int32) + (1 : Int32) + (12 : Int32) * (va_up I' 399 (I' 399 ||| 1 <<< (srC c &&& 31)) 397 : Int32)) + (2 : Int32)).toNatClampNeg (I5 398))) := RST_f2 f2 (fun _ _ _ _ => rfl) (fun q hq => va_up_ne _ _ hq)
        have z398 : (I5 398).toInt = (w : Int) := by rw [f3 398 (by decide) (by decide) (by decide) (by decide), va_up_ne _ _ (show (398 : Nat) ≠ 399 by decide)]; exact h398
        have hF2 : (FS I5 (va_up (va_up r' 384 (upd (r' 384) ((va_up I' 399 (I' 399 ||| 1 <<< (srC c &&& 31)) 396 : Int32) + (1 : Int32) + (12 : Int32) * (va_up I' 399 (I' 399 ||| 1 <<< (srC c &&& 31)) 397 : Int32)).toNatClampNeg (srC c))) 384 (upd ((va_up r' 384 (upd (r' 384) ((va_up I' 399 (I' 399 ||| 1 <<< (srC c &&& 31)) 396 : Int32) + (1 : Int32) + (12 : Int32) * (va_up I' 399 (I' 399 ||| 1 <<< (srC c &&& 31)) 397 : Int32)).toNatClampNeg (srC c))) 384) (((va_up I' 399 (I' 399 ||| 1 <<< (srC c &&& 31)) 396 : Int32) + (1 : Int32) + (12 : Int32) * (va_up I' 399 (I' 399 ||| 1 <<< (srC c &&& 31)) 397 : Int32)) + (2 : Int32)).toNatClampNeg (I5 398)))).2 = upd (upd (r' 384) (W + 1 + 12 * k) (srC c)) (W + 1 + 12 * k + 2) (I5 398) := by
          rw [FS_2, va_up_self, hrk, hAd _ 2 2 (by decide) (by decide)]
        have E := eith_sim (J := J) (rj := rj) (rq := rq) (mj := mj) (mq := mq) h3 hb hp1.1 hp1.2.1 hp1.2.2.1 hp1.2.2.2.1 hp1.2.2.2.2 ht2 hR5 rfl rfl rfl (Nat.le_refl _)
        have fx : FRG id w_X4_readEither _ (g_X4_readEither (va_up I 256 (I 256 + 1)) J (va_up r 257 (upd (r 257) (I 256).toNatClampNeg c)) rj rq) := g_X4_readEither_f
        have fy : ∀ rK, FRG Prod.snd w_X12_either (I5, J5, rK, mj, mq) (g_X12_either I5 J5 rK mj mq) := fun rK => g_X12_either_f
        exact close h3 hb (by omega) (ERES_w E (Int.le_of_lt f4)) ((congrArg Int32.toInt (fx.1 256 (by decide))).trans (q256 (by omega))) ((fx.2.2.1 257 (by decide)).trans q257) ((fx.2.2.1 258 (by decide)).trans q258) ((congrArg Int32.toInt ((fy _).1 397 (by decide))).trans z397) (((fy _).1 399 (by decide)).trans z399) ((congrArg Int32.toInt ((fy _).1 396 (by decide))).trans z396) cm1 (fun I3 r3 => va_up r3 384 (upd (r3 384) (((va_up I' 399 (I' 399 ||| 1 <<< (srC c &&& 31)) 396 : Int32) + (1 : Int32) + (12 : Int32) * (va_up I' 399 (I' 399 ||| 1 <<< (srC c &&& 31)) 397 : Int32)) + (3 : Int32)).toNatClampNeg (I3 398))) (fun _ _ _ h => va_up_ne _ _ h) (fun If rf I1 r1 p2 p3 I2 hc h256 h257 h258 h1 h2 h3' => dcl_ei hc (at_n h256) (hAd _ 3 3 (by decide) (by decide)) hf0 hM (by omega) hW z396 hC hRT hw pe hS1 hS2 z398 hF2 h257 h258 h1 h2 c3 h3') (fun I1 r1 z => low_ei z (hAd _ 3 3 (by decide) (by decide)) hf0 hW z396 (by omega) z398 hF2)
      · rw [if_neg (fun y => hk2 (lt20.mp y)), if_pos (eq20.mpr (by omega))]
        exact rf 5 (by decide)
    · rw [if_neg (show ¬ c < 4 from fun y => by have := Int32.lt_iff_toInt_lt.mp y; omega), if_neg (show ¬ srC c < 5 from fun y => by have := Int32.lt_iff_toInt_lt.mp y; omega)]
      obtain ⟨y, y1, y2⟩ := fo_v (a := c) (J := J) (ri := r) (rj := rj) (rq := rq) f256 hk
      rw [bn_n y1]
      have tb : (I' 399 >>> (srC c &&& 31)) &&& 1 = 1 ↔ ∃ i, i < k ∧ r 257 i = c := by
        rw [sv1, tb_1 (s := c.toInt.toNat + 1) (by omega)]
        exact cm c (by omega) c8
      by_cases q : ∃ i, i < k ∧ r 257 i = c
      · rw [if_neg (fun z => (y2.mp z) q), if_pos (tb.mpr q)]
        exact rf 4 (by decide)
      · rw [if_pos (y2.mpr q), if_neg (fun z => q (tb.mp z))]
        by_cases hk2 : k < 20
        · rw [if_pos (lt20.mpr hk2), if_neg (show ¬ I' 397 = 20 from fun y => by have := eq20.mp y; omega)]
          obtain ⟨I5, J5, f1, f2, f3, f4⟩ := nx (va_up I' 399 (I' 399 ||| 1 <<< (srC c &&& 31))) (va_up r' 384 (upd (r' 384) ((va_up I' 399 (I' 399 ||| 1 <<< (srC c &&& 31)) 396 : Int32) + (1 : Int32) + (12 : Int32) * (va_up I' 399 (I' 399 ||| 1 <<< (srC c &&& 31)) 397 : Int32)).toNatClampNeg (srC c))) (up9 _) (fun q hq => va_up_ne r' _ hq)
          rw [bv_n f1]
          have z397 : (I5 397).toInt = (k : Int) := by rw [f3 397 (by decide) (by decide) (by decide) (by decide), va_up_ne _ _ (show (397 : Nat) ≠ 399 by decide)]; exact g397
          have z399 : I5 399 = I' 399 ||| 1 <<< (srC c &&& 31) := by rw [f3 399 (by decide) (by decide) (by decide) (by decide), va_up_self]
          have z396 : (I5 396).toInt = (W : Int) := by rw [f3 396 (by decide) (by decide) (by decide) (by decide), va_up_ne _ _ (show (396 : Nat) ≠ 399 by decide)]; exact g396
          have z398 : (I5 398).toInt = (w : Int) := by rw [f3 398 (by decide) (by decide) (by decide) (by decide), va_up_ne _ _ (show (398 : Nat) ≠ 399 by decide)]; exact h398
          by_cases c6 : 5 < c.toInt
          · rw [if_pos (show 5 < c from Int32.lt_iff_toInt_lt.mpr (by omega)), if_pos (show 6 < srC c from Int32.lt_iff_toInt_lt.mpr (by omega))]
            -- a number
            have num : ∀ (a x : Int32) (rK : Nat → Nat → Int32), RST n T c2 v2 s2 e2 P 0 I5 J5 rK → a.toInt ≤ 9999 → rK 384 = upd (r' 384) (W + 1 + 12 * k) (srC c) → x.toNatClampNeg = W + 1 + 12 * k + 1 → CRES J rj rq mj mq n T k W (DCL W c M f0) f0 (bnV (g_X4_readNumber a (va_up I 256 (I 256 + 1)) J (va_up r 257 (upd (r 257) (I 256).toNatClampNeg c)) rj rq) fun (I2 : Nat → Int32) (_ : Nat → Int64) (r2 : Nat → Nat → Int32) (_ : Nat → Nat → Int64) (_ : Nat → Nat → Option Nat) => ((I2, J, va_up r2 258 (upd (r2 258) (I2 256).toNatClampNeg (I2 132)), rj, rq) : vM)) (bnI (g_X12_take a x I5 J5 rK mj mq) fun (x : Int32) (I3 : Nat → Int32) (J3 : Nat → Int64) (r3 : Nat → Nat → Int32) (_ : Nat → Nat → Int64) (_ : Nat → Nat → Option Nat) => if x = 0 then (if I3 393 = 59 then bnV (g_X12_nextToken_x (va_up I3 397 (I3 397 + 1)) J3 r3 mj mq) fun (I5 : Nat → Int32) (J5 : Nat → Int64) (_ : Nat → Nat → Int32) (_ : Nat → Nat → Int64) (_ : Nat → Nat → Option Nat) => (((0 : Int32), I5, J5, r3, mj, mq) : Int32 × vM) else ((1 : Int32), I3, J3, r3, mj, mq)) else (x, I3, J3, r3, mj, mq)) (tmM (I' 391).toInt (I' 393).toInt) := fun a x rK hRK ha hg hx => by
              have E := num_sim (J := J) (rj := rj) (rq := rq) (mj := mj) (mq := mq) (x := x) h3 hb ha hp1 ht2 hRK
              have fx : FRG id w_X4_readNumber _ (g_X4_readNumber a (va_up I 256 (I 256 + 1)) J (va_up r 257 (upd (r 257) (I 256).toNatClampNeg c)) rj rq) := g_X4_readNumber_f
              have fy : FRG Prod.snd w_X12_take (I5, J5, rK, mj, mq) (g_X12_take a x I5 J5 rK mj mq) := g_X12_take_f
              exact close h3 hb (by omega) (ERES_w E (Int.le_of_lt f4)) ((congrArg Int32.toInt (fx.1 256 (by decide))).trans (q256 (by omega))) ((fx.2.2.1 257 (by decide)).trans q257) ((fx.2.2.1 258 (by decide)).trans q258) ((congrArg Int32.toInt (fy.1 397 (by decide))).trans z397) ((fy.1 399 (by decide)).trans z399) ((congrArg Int32.toInt (fy.1 396 (by decide))).trans z396) cm1 (fun _ r3 => r3) (fun _ _ _ _ => rfl) (fun If rf I1 r1 p2 p3 I2 hc h256 h257 h258 h1 h2 h3' => dcl_nu hc (at_n h256) hg hx hf0 hM (by omega) hC hRT hw pe hS1 hS2 z398 h257 h258 h1 h2 (by omega) h3') (fun I1 r1 z => low_nu z hg hx hf0)
            have d : c.toInt = 6 ∨ c.toInt = 7 ∨ c.toInt = 8 := by omega
            rcases d with d | d | d
            · have ec : c = 6 := to_k (k := 6) d (by decide)
              rw [show g_X4_mostOf c = 100 by rw [ec]; decide, if_pos (show srC c = 7 by rw [ec]; decide)]
              exact num 100 _ _ f2 (by decide) (hrk _) (hAd _ 1 1 (by decide) (by decide))
            · have ec : c = 7 := to_k (k := 7) d (by decide)
              rw [show g_X4_mostOf c = 599 by rw [ec]; decide, if_neg (show ¬ srC c = 7 by rw [ec]; decide), if_pos (show srC c = 8 by rw [ec]; decide)]
              exact num 599 _ _ f2 (by decide) (hrk _) (hAd _ 1 1 (by decide) (by decide))
            · have ec : c = 8 := to_k (k := 8) d (by decide)
              rw [show g_X4_mostOf c = 1000 by rw [ec]; decide, if_neg (show ¬ srC c = 7 by rw [ec]; decide), if_neg (show ¬ srC c = 8 by rw [ec]; decide)]
              exact num 1000 _ _ f2 (by decide) (hrk _) (hAd _ 1 1 (by decide) (by decide))
          · rw [if_neg (show ¬ 5 < c from fun y => by have := Int32.lt_iff_toInt_lt.mp y; omega), if_neg (show ¬ 6 < srC c from fun y => by have := Int32.lt_iff_toInt_lt.mp y; omega)]
            -- KEYS
            have hgk : upd (va_up r' 384 (upd (r' 384) ((va_up I' 399 (I' 399 ||| 1 <<< (srC c &&& 31)) 396 : Int32) + (1 : Int32) + (12 : Int32) * (va_up I' 399 (I' 399 ||| 1 <<< (srC c &&& 31)) 397 : Int32)).toNatClampNeg (srC c)) 384) (((va_up I' 399 (I' 399 ||| 1 <<< (srC c &&& 31)) 396 : Int32) + (1 : Int32) + (12 : Int32) * (va_up I' 399 (I' 399 ||| 1 <<< (srC c &&& 31)) 397 : Int32)) + (4 : Int32)).toNatClampNeg 0 = upd (upd (r' 384) (W + 1 + 12 * k) (srC c)) (W + 1 + 12 * k + 4) 0 := by rw [hrk, hAd _ 4 4 (by decide) (by decide)]
            have E := keys_sim (J := J) (rj := rj) (rq := rq) (mj := mj) (mq := mq) h3 hb (hA (I' 399 ||| 1 <<< (srC c &&& 31))) (by omega) hp1 ht2 f2
            have fx : FRG id w_X4_readKeys _ (g_X4_readKeys (va_up I 256 (I 256 + 1)) J (va_up r 257 (upd (r 257) (I 256).toNatClampNeg c)) rj rq) := g_X4_readKeys_f
            have fy : ∀ a rK, FRG Prod.snd w_X12_keys (I5, J5, rK, mj, mq) (g_X12_keys a I5 J5 rK mj mq) := fun a rK => g_X12_keys_f
            exact close h3 hb (by omega) (ERES_w E (Int.le_of_lt f4)) ((congrArg Int32.toInt (fx.1 256 (by decide))).trans (q256 (by omega))) ((fx.2.2.1 257 (by decide)).trans q257) ((fx.2.2.1 258 (by decide)).trans q258) ((congrArg Int32.toInt ((fy _ _).1 397 (by decide))).trans z397) (((fy _ _).1 399 (by decide)).trans z399) ((congrArg Int32.toInt ((fy _ _).1 396 (by decide))).trans z396) cm1 (fun _ r3 => r3) (fun _ _ _ _ => rfl) (fun If rf I1 r1 p2 p3 I2 hc h256 h257 h258 h1 h2 h3' => dcl_ke hc (at_n h256) hgk hf0 hM (by omega) hW (hA _) hC hRT hw pe hS1 hS2 z398 h257 h258 h1 h2 (by omega) h3') (fun I1 r1 z => low_ke z hgk hf0 (by omega) hW (hA _))
        · rw [if_neg (fun y => hk2 (lt20.mp y)), if_pos (eq20.mpr (by omega))]
          exact rf 5 (by decide)
  · rw [if_neg (show ¬ c ≤ 8 from fun y => by have := Int32.le_iff_toInt_le.mp y; omega), if_pos (sr_0 (by omega))]
    exact rf 1 (by decide)
end PR12
