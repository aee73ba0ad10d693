/-! ===== pure: a TEXT, both sides ===== -/
section PR13
variable {J : Nat → Int64} {rj : Nat → Nat → Int64} {rq : Nat → Nat → Option Nat} {mj : Nat → Nat → Int64} {mq : Nat → Nat → Option Nat}
theorem adv_f {I : Nat → Int32} {r : Nat → Nat → Int32} : ∃ I2 : Nat → Int32, g_X6_advance I J r rj rq = (I2, J, r, rj, rq) ∧ I2 129 = I 129 ∧ I2 130 = I 130 := by
  have fx : FRG id w_X6_advance (I, J, r, rj, rq) (g_X6_advance I J r rj rq) := g_X6_advance_f
  generalize g_X6_advance I J r rj rq = A at fx ⊢
  obtain ⟨I2, J2, r2, l2, q2⟩ := A
  have fv : FRV w_X6_advance (I, J, r, rj, rq) (I2, J2, r2, l2, q2) := fx
  have e1 : J2 = J := fe_J fv
  have e2 : r2 = r := fe_ri fv
  have e3 : l2 = rj := fe_rj fv
  have e4 : q2 = rq := fe_rq fv
  subst e1 e2 e3 e4
  exact ⟨I2, rfl, fv.1 129 (by decide), fv.1 130 (by decide)⟩
theorem RD_f {N : Nat} {x : Int32} {I : Nat → Int32} {r : Nat → Nat → Int32} (h : I 129 ≠ 0) : g_X4_read_rest_L42 J rj rq N x I r = (I, J, r, rj, rq) := by
  cases N with
  | zero => rfl
  | succ N =>
    rw [g_X4_read_rest_L42_e]
    try simp only [↓ap1_n]
    by_cases c : (300 : Int32) < x
    · rw [if_pos c]
    · rw [if_neg c, if_neg h]
/-- how the reading of a TEXT ends: a fault and its place, or as many CLAUSES -/
def TRES (J : Nat → Int64) (rj : Nat → Nat → Int64) (rq : Nat → Nat → Option Nat) (mj : Nat → Nat → Int64) (mq : Nat → Nat → Option Nat) (W : Nat) (z : Int32) (f0 : Nat → Int32) (X : vM) (Y : Int32 × vM) : Prop := ∃ (f : Int32) (I1 : Nat → Int32) (J1 : Nat → Int64) (r1 : Nat → Nat → Int32) (If : Nat → Int32) (rf : Nat → Nat → Int32), Y = (f, I1, J1, r1, mj, mq) ∧ X = (If, J, rf, rj, rq) ∧ (∀ j, j ≤ W → r1 384 j = f0 j) ∧ ((f ≠ 0 ∧ If 129 = f ∧ If 130 = I1 392) ∨ (f = 0 ∧ If 129 = 0 ∧ If 130 = z ∧ If 256 = I1 397 ∧ (I1 396).toInt = (W : Int) ∧ ∃ (M : CLs) (w : Nat), (I1 397).toInt = (M.length : Int) ∧ M.length ≤ 20 ∧ CTX rf M ∧ RTX W (r1 384) M w ∧ w ≤ tot M ∧ tot M ≤ 300))
theorem text_L {n : Nat} {T : Nat → Int32} (h3 : n ≤ 300) (hb : ∀ j, j < n → 0 ≤ (T j).toInt) {W : Nat} (hW : W ≤ 20000) {z : Int32} {f0 : Nat → Int32} : ∀ (m N : Nat) (x : Int32) (I : Nat → Int32) (r : Nat → Nat → Int32) (I' : Nat → Int32) (J' : Nat → Int64) (r' : Nat → Nat → Int32) (P : List Int32) (p : Nat) (c v : Int32) (s e k : Nat), (tmM (I' 391).toInt (I' 393).toInt).toNat < m → x.toInt = (k : Int) → k ≤ 20 → 301 - k < N → PST n e T I r → I 194 = c → (I 195).toInt = (s : Int) → (I 256).toInt = (k : Int) → I 130 = z → TKC T n p c s e v → RST n T c v s e P 0 I' J' r' → (I' 397).toInt = (k : Int) → CAME (I' 399) (r 257) k → (I' 396).toInt = (W : Int) → ∀ (M : CLs) (w : Nat), M.length = k → CTX r M → RTX W (r' 384) M w → w ≤ tot M → tot M ≤ p → (I 132).toInt = (tot M : Int) → (I' 398).toInt = (w : Int) → (∀ j, j ≤ W → r' 384 j = f0 j) → TRES J rj rq mj mq W z f0 (g_X4_read_rest_L42 J rj rq N x I r) (g_X12_readText_L48 mj mq m I' J' r') := by
  intro m
  induction m with
  | zero => intro _ _ _ _ _ _ _ _ _ _ _ _ _ _ h; exact absurd h (Nat.not_lt_zero _)
  | succ m ih =>
    intro N x I r I' J' r' P p c v s e k hm hx hk hN hp g1 g2 g256 g130 ht hR g397 cm g396 M w hM hC hRT hw hp0 h132 h398 hf0
    cases N with
    | zero => exact absurd hN (Nat.not_lt_zero _)
    | succ N =>
    have k300 : (300 : Int32).toInt = 300 := by decide
    have hR' := hR
    obtain ⟨_, ⟨b1, b2, b3⟩, _, _⟩ := hR'
    have t33 := b3.2.2.1
    rw [g_X4_read_rest_L42_e, g_X12_readText_L48_e]
    try simp only [↓ap1_n]
    rw [if_neg (show ¬ (300 : Int32) < x from fun q => by have := Int32.lt_iff_toInt_lt.mp q; omega), if_pos hp.2.2.2.2, g1]
    by_cases c33 : c = 33
    · rw [if_pos c33, if_pos (t33.mpr c33)]
      exact ⟨0, I', J', r', I, r, rfl, rfl, hf0, Or.inr ⟨rfl, hp.2.2.2.2, g130, Int32.toInt_inj.mp (g256.trans g397.symm), g396, M, w, by rw [hM]; exact g397, by omega, hC, hRT, hw, by have := TKC_le ht; omega⟩⟩
    · rw [if_neg c33, if_neg (fun y => c33 (t33.mp y))]
      obtain ⟨f, I1, J1, r1, e1, h⟩ := clause_sim (J := J) (rj := rj) (rq := rq) (mj := mj) (mq := mq) h3 hb hp g1 g2 g256 hk ht hR g397 cm g396 hW hM hC hRT hw hp0 h132 h398 hf0
      rw [bn_n e1]
      rcases h with ⟨y, s0, y1, ⟨If, rf, x1, x2, x3⟩, lw⟩ | ⟨y, p2, c2, v2, s2, e2, P2, If, rf, a1, a2, x1, a4, ⟨k19, a5, a6, a7, a8⟩, a9, E, w2, d1, d2, d3, d4, d5, d6, d7⟩
      · rw [bv_n x1, if_neg y]
        obtain ⟨I2, i1, i2, i3⟩ := adv_f (J := J) (rj := rj) (rq := rq) (I := If) (r := rf)
        rw [bv_n i1, RD_f (by rw [i2, x2]; exact y)]
        exact ⟨f, I1, J1, r1, I2, rf, rfl, rfl, lw, Or.inl ⟨y, i2.trans x2, i3.trans (Int32.toInt_inj.mp (x3.trans y1.symm))⟩⟩
      · subst y
        rw [bv_n x1, if_pos (show (0 : Int32) = 0 from rfl)]
        obtain ⟨I2, i1, i2, i3, _, hp2, i6⟩ := PST_n (J := J) (rj := rj) (rq := rq) h3 a4 a1
        rw [bv_n i1]
        have sy : STG id I (g_X4_readClause I J r rj rq) := g_X4_readClause_s
        rw [x1] at sy
        have z130 : If 130 = z := by
          rcases sy with q | ⟨_, q⟩
          · exact absurd a4.2.2.2.2 q
          · exact q.trans g130
        have te : 0 ≤ tmM (I1 391).toInt (I1 393).toInt := tm_b (by have := a2.2.1.1; have := (TKC_le a1).2.2.1; omega)
        exact ih N (x + Int32.ofInt 1) I2 rf I1 J1 r1 P2 p2 c2 v2 s2 e2 (k + 1) (by omega) (up_i hx (by omega)) (by omega) (by omega) hp2 i2 i3 (by rw [i6 256 (by decide) (by decide) (by decide) (by decide)]; exact a5) (by rw [i6 130 (by decide) (by decide) (by decide) (by decide)]; exact z130) a1 a2 a6 a7 a8 ((c, E) :: M) w2 (by show M.length + 1 = k + 1; rw [hM]) d1 d2 d5 d6 (by rw [i6 132 (by decide) (by decide) (by decide) (by decide)]; exact d4) d3 d7
/-- read() of the class, behind its beginning, and readText() of the reference -/
theorem text_sim {n : Nat} {T : Nat → Int32} (h3 : n ≤ 300) (hb : ∀ j, j < n → 0 ≤ (T j).toInt) {I : Nat → Int32} {r : Nat → Nat → Int32} (hn : (I 193).toInt = (n : Int)) (hT : r 192 = T) (h129 : I 129 = 0) (h256 : I 256 = 0) {I' : Nat → Int32} {J' : Nat → Int64} {r' : Nat → Nat → Int32} (mn : (I' 388).toInt = (n : Int)) (mT : r' 387 = T) (m401 : 0 ≤ (I' 401).toInt) {t : Nat} (h6 : (r' 384 6).toInt = (t : Int)) (ht9 : t ≤ 9) (h258 : r 258 0 = 0) : TRES J rj rq mj mq (3720 + 900 * t) (I 130) (r' 384) (g_X4_read_rest I J r rj rq) (g_X12_readText I' J' r' mj mq) := by
  have k0 : (0 : Int32).toInt = 0 := by decide
  rw [g_X4_read_rest_e, g_X12_readText_e]
  try simp only [↓ap1_n]
  rw [g_X6_rewind_e]
  try simp only [↓ap1_n]
  rw [bv_n (show ((va_up (va_up I 132 0) 197 0, J, r, rj, rq) : vM) = (va_up (va_up I 132 0) 197 0, J, r, rj, rq) from rfl)]
  -- the class at its first TOKEN
  have hp : PST n 0 T (va_up (va_up I 132 0) 197 0) r := ⟨by rw [va_up_ne _ _ (show (193 : Nat) ≠ 197 by decide), va_up_ne _ _ (show (193 : Nat) ≠ 132 by decide)]; exact hn, hT, by rw [va_up_self]; exact k0, Nat.zero_le _, by rw [va_up_ne _ _ (show (129 : Nat) ≠ 197 by decide), va_up_ne _ _ (show (129 : Nat) ≠ 132 by decide)]; exact h129⟩
  obtain ⟨c, s, e, v, ht⟩ := TKC_ex T (n := n) (p := 0) (Nat.zero_le _)
  obtain ⟨I2, i1, i2, i3, _, hp2, i6⟩ := PST_n (J := J) (rj := rj) (rq := rq) h3 hp ht
  rw [bv_n i1]
  -- the reference at its first TOKEN
  generalize hK : va_up (va_up (va_up (va_up (va_up (va_up I' 396 (3720 + 900 * r' 384 6)) 397 0) 398 0) 402 0) 399 0) 391 0 = K
  have zz : ∀ f, f ≠ 396 → f ≠ 397 → f ≠ 398 → f ≠ 402 → f ≠ 399 → f ≠ 391 → K f = I' f := fun f h1 h2 h3 h4 h5 h6 => by rw [← hK, va_up_ne _ _ h6, va_up_ne _ _ h5, va_up_ne _ _ h4, va_up_ne _ _ h3, va_up_ne _ _ h2, va_up_ne _ _ h1]
  have z391 : K 391 = 0 := by rw [← hK, va_up_self]
  have z399 : K 399 = 0 := by rw [← hK, va_up_ne _ _ (show (399 : Nat) ≠ 391 by decide), va_up_self]
  have z402 : K 402 = 0 := by rw [← hK, va_up_ne _ _ (show (402 : Nat) ≠ 391 by decide), va_up_ne _ _ (show (402 : Nat) ≠ 399 by decide), va_up_self]
  have z397 : K 397 = 0 := by rw [← hK, va_up_ne _ _ (show (397 : Nat) ≠ 391 by decide), va_up_ne _ _ (show (397 : Nat) ≠ 399 by decide), va_up_ne _ _ (show (397 : Nat) ≠ 402 by decide), va_up_ne _ _ (show (397 : Nat) ≠ 398 by decide), va_up_self]
  have z398 : K 398 = 0 := by rw [← hK, va_up_ne _ _ (show (398 : Nat) ≠ 391 by decide), va_up_ne _ _ (show (398 : Nat) ≠ 399 by decide), va_up_ne _ _ (show (398 : Nat) ≠ 402 by decide), va_up_self]
  have z396 : K 396 = 3720 + 900 * r' 384 6 := by rw [← hK, va_up_ne _ _ (show (396 : Nat) ≠ 391 by decide), va_up_ne _ _ (show (396 : Nat) ≠ 399 by decide), va_up_ne _ _ (show (396 : Nat) ≠ 402 by decide), va_up_ne _ _ (show (396 : Nat) ≠ 398 by decide), va_up_ne _ _ (show (396 : Nat) ≠ 397 by decide), va_up_self]
  have w396 : (3720 + 900 * r' 384 6).toInt = ((3720 + 900 * t : Nat) : Int) := by
    have m1 := i_mul (show (900 : Int32).toInt = 900 by decide) h6 (by omega) (by omega)
    have := i_add (show (3720 : Int32).toInt = 3720 by decide) m1 (by omega) (by omega)
    omega
  obtain ⟨I5, J5, f1, f2, f3, f4, f5, f6⟩ := ntk_v (J := J') (ri := r') (rj := mj) (rq := mq) (I := K) (p := 0) h3 (by rw [zz 388 (by decide) (by decide) (by decide) (by decide) (by decide) (by decide)]; exact mn) (by rw [z391]; exact k0) (Nat.zero_le _) (by rw [mT]; exact hb) (by rw [mT]; exact ht)
  rw [bv_n f1]
  have q : ∀ f, f ≠ 391 → f ≠ 392 → f ≠ 393 → f ≠ 394 → I5 f = K f := f5
  have hR : RST n T c v s e (stl (r' 400) (I' 401).toInt.toNat) 0 I5 J5 r' := ⟨⟨by rw [q 388 (by decide) (by decide) (by decide) (by decide), zz 388 (by decide) (by decide) (by decide) (by decide) (by decide) (by decide)]; exact mn, mT⟩, ⟨f2, f3, f4⟩, ⟨by rw [q 401 (by decide) (by decide) (by decide) (by decide), zz 401 (by decide) (by decide) (by decide) (by decide) (by decide) (by decide), stl_len]; omega, by rw [stl_len]⟩, by rw [q 402 (by decide) (by decide) (by decide) (by decide), z402]; exact k0⟩
  have z130 : I2 130 = I 130 := by rw [i6 130 (by decide) (by decide) (by decide) (by decide), va_up_ne _ _ (show (130 : Nat) ≠ 197 by decide), va_up_ne _ _ (show (130 : Nat) ≠ 132 by decide)]
  rw [← z130]
  exact text_L h3 hb (by omega) _ _ 0 I2 r I5 J5 r' _ 0 c v s e 0 (Nat.lt_succ_self _) k0 (Nat.zero_le _) (by rw [k0]; omega) hp2 i2 i3 (by rw [i6 256 (by decide) (by decide) (by decide) (by decide), va_up_ne _ _ (show (256 : Nat) ≠ 197 by decide), va_up_ne _ _ (show (256 : Nat) ≠ 132 by decide), h256]; exact k0) rfl ht hR (by rw [q 397 (by decide) (by decide) (by decide) (by decide), z397]; exact k0) (by rw [q 399 (by decide) (by decide) (by decide) (by decide), z399]; exact cam_0) (by rw [q 396 (by decide) (by decide) (by decide) (by decide), z396]; exact w396) [] 0 rfl (show (r 258 0).toInt = 0 by rw [h258]; exact k0) rfl (Nat.le_refl _) (Nat.le_refl _) (by rw [i6 132 (by decide) (by decide) (by decide) (by decide), va_up_ne _ _ (show (132 : Nat) ≠ 197 by decide), va_up_self]; exact k0) (by rw [q 398 (by decide) (by decide) (by decide) (by decide), z398]; exact k0) (fun _ _ => rfl)
end PR13
