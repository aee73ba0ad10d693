/-! ===== pure: a SUM, both sides step by step ===== -/
section PR8
variable {J : Nat → Int64} {rj : Nat → Nat → Int64} {rq : Nat → Nat → Option Nat} {mj : Nat → Nat → Int64} {mq : Nat → Nat → Option Nat}
theorem to_k {c k : Int32} {z : Int} (h : c.toInt = z) (hk : k.toInt = z) : c = k := Int32.toInt_inj.mp (h.trans hk.symm)
theorem popE_len {a : Int32} : ∀ L : List Int32, (popE a L).length + (popR a L).length = L.length
  | [] => rfl
  | x :: L => by
    by_cases h : g_X4_rank x < a
    · rw [popE_s h, popR_s h]
      show 0 + (x :: L).length = _
      omega
    · rw [popE_c h, popR_c h]
      have := popE_len (a := a) L
      show (popE a L).length + 1 + (popR a L).length = L.length + 1
      omega
theorem en_num {v w x : Int32} (h : x = v) (hv : nvE v w) (h9 : w.toInt ≤ 9999) : en x = (0, w) := by
  have k0 : (0 : Int32).toInt = 0 := by decide
  rcases hv with ⟨u1, u2, u3⟩ | ⟨u1, u2, u3⟩
  · unfold en
    rw [h, u3, if_pos (Int32.le_iff_toInt_le.mpr (by omega))]
  · omega
theorem en_name {c : Int32} (h : 12 ≤ c.toInt ∧ c.toInt ≤ 17) : en (-c) = (1, nmC c) := by
  have d : c.toInt = 12 ∨ c.toInt = 13 ∨ c.toInt = 14 ∨ c.toInt = 15 ∨ c.toInt = 16 ∨ c.toInt = 17 := by omega
  rcases d with d | d | d | d | d | d
  · rw [to_k (c := c) (k := 12) d (by decide)]; decide
  · rw [to_k (c := c) (k := 13) d (by decide)]; decide
  · rw [to_k (c := c) (k := 14) d (by decide)]; decide
  · rw [to_k (c := c) (k := 15) d (by decide)]; decide
  · rw [to_k (c := c) (k := 16) d (by decide)]; decide
  · rw [to_k (c := c) (k := 17) d (by decide)]; decide
theorem sum_sim {n : Nat} {T : Nat → Int32} (h3 : n ≤ 300) (hb : ∀ j, j < n → 0 ≤ (T j).toInt) {B : List Int32} (hB : stB B) (hBl : B.length ≤ 11) {cm : Int32} {ob : Nat} {S0 F0 : Int32 × (Nat → Int32)} {bb : Int32} {p0 : Nat} : ∀ k : Nat,
    (∀ (N : Nat) (i : Int32) (I : Nat → Int32) (r : Nat → Nat → Int32) (m : Nat) (I' : Nat → Int32) (J' : Nat → Int64) (r' : Nat → Nat → Int32) (P : List Int32) (o p : Nat) (c v : Int32) (s e : Nat), n - p < k → CST n p T (P.map mpc ++ B) o (cn40 P) cm I r → TKC T n p c s e v → RST n T c v s e P o I' J' r' → I' 403 = 0 → okP 0 P → o = ob + cn40 P + cn2 P → o ≤ 8 → (I 137 = 0 ∨ c ≠ 11) → 0 ≤ i.toInt → i.toInt ≤ (p : Int) → (301 - i.toInt).toNat < N → (tmM (I' 391).toInt (I' 393).toInt).toNat < m → ∀ E : List Int32, ES I r = emL S0 E → FS I' r' = fmL bb F0 (E.map en) → I' 396 = bb → E.length + P.length + p0 ≤ p → eTr E [] = some (eTy (P.map mpc ++ B)) → ∀ d : Int32, d ≠ 0 → SRES J rj rq mj mq n T S0 F0 bb p0 B ob cm (g_X4_readEither_L34 J rj rq N d i I r) (g_X12_sum_L10 mj mq m I' J' r') (tmM (I' 391).toInt (I' 393).toInt)) ∧
    (∀ (N : Nat) (i : Int32) (I : Nat → Int32) (r : Nat → Nat → Int32) (m : Nat) (I' : Nat → Int32) (J' : Nat → Int64) (r' : Nat → Nat → Int32) (P : List Int32) (q o p : Nat) (c v : Int32) (s e : Nat), n - p < k → CST n p T (List.replicate q 35 ++ (P.map mpc ++ B)) (o + q) (cn40 P) cm I r → TKC T n p c s e v → RST n T c v s e P o I' J' r' → I' 403 = 1 → okP 0 P → no2 P → o = ob + cn40 P + cn2 P → o + q ≤ 8 → 0 ≤ i.toInt → i.toInt ≤ (p : Int) → (301 - i.toInt).toNat < N → (tmM (I' 391).toInt (I' 393).toInt).toNat < m → ∀ E : List Int32, ES I r = emL S0 E → FS I' r' = fmL bb F0 ((E ++ List.replicate q (-35)).map en) → I' 396 = bb → E.length + q + P.length + p0 ≤ p → eTr (E ++ List.replicate q (-35)) [] = some (false :: eTy (P.map mpc ++ B)) → SRES J rj rq mj mq n T S0 F0 bb p0 B ob cm (g_X4_readEither_L34 J rj rq N 0 i I r) (g_X12_sum_L10 mj mq m I' J' r') (tmM (I' 391).toInt (I' 393).toInt + 1)) := by
  intro k
  induction k with
  | zero => exact ⟨fun _ _ _ _ _ _ _ _ _ _ _ _ _ _ _ h => absurd h (Nat.not_lt_zero _), fun _ _ _ _ _ _ _ _ _ _ _ _ _ _ _ _ h => absurd h (Nat.not_lt_zero _)⟩
  | succ k ih =>
    obtain ⟨ihD, ihB⟩ := ih
    constructor
    · -- a ONE is due
      intro N i I r m I' J' r' P o p c v s e hk hC ht hR hw hO ho ho8 haa hi0 hip hN hm E hE hF hbb hEl hTr d hd
      have hle := TKC_le ht
      have hpl := okP_len P 0 (by decide) hO
      cases N with
      | zero => exact absurd hN (Nat.not_lt_zero _)
      | succ N =>
      cases m with
      | zero => exact absurd hm (Nat.not_lt_zero _)
      | succ m =>
      obtain ⟨I2, ⟨g1, g2, g3⟩, hC2, ⟨hA, hA2⟩, hD, _⟩ := CL_s (J := J) (rj := rj) (rq := rq) h3 hC ht (i := i) (by omega) N
      have hE2 : ES I2 r = emL S0 E := (ES_eq hA2 rfl).trans hE
      rw [hD d hd, g_X12_sum_L10_e]
      try simp only [↓ap1_n]
      rw [if_pos hw]
      have hR' := hR
      obtain ⟨⟨a1, a2⟩, ⟨b1, b2, b3⟩, ⟨c1, c2⟩, d1⟩ := hR'
      have b3' := b3
      obtain ⟨t0, t18, t33, s19, s20, s21, s22, s23, s24, s25, s26, s27, s28, s29, s30, s31, s32, t2, tv, tw⟩ := b3'
      have hC2' := hC2
      obtain ⟨⟨z1, z2, z3, z4, z5, z6⟩, ⟨y1, y2⟩, x1, x2, x3⟩ := hC2'
      have i1 : s < n → (i + Int32.ofInt 1).toInt = i.toInt + 1 := fun _ => t1_inc (by omega) (by omega)
      have cn33 : s < n → c ≠ 33 := fun q y => by
        rcases ht.2 with ⟨w1, _⟩ | ⟨_, _, _, w4, _⟩ | ⟨_, _, _, w4⟩ | ⟨_, _, _, _, w5⟩
        · omega
        · rw [y] at w4; exact absurd w4 (by decide)
        · rw [y] at w4
          rcases wtk_le (T := T) (s := s) (e := e) WL 0 (by decide) (by decide) with h | h
          · rw [← w4] at h; exact absurd h (by decide)
          · rw [← w4] at h; exact absurd h (by decide)
        · rw [y] at w5; exact absurd w5.symm sgT_33
      have no33 : c ≠ 33 → s < n := fun q => by
        rcases ht.2 with ⟨_, _, w3⟩ | ⟨w1, _⟩ | ⟨w1, _⟩ | ⟨w1, _⟩
        · exact absurd w3 q
        · exact w1
        · exact w1
        · exact w1
      obtain ⟨c', s', e', v', ht'⟩ := TKC_ex T hC2.1.2.2.2.1
      have lenL : (P.map mpc ++ B).length = P.length + B.length := by rw [List.length_append, List.length_map]
      -- a fault of both
      have lw0 : LOWF F0 bb I' r' := ⟨E.map en, hF, by rw [List.length_map]; omega⟩
      have flt : ∀ (f : Int32) (K : Nat → Int32) (rk : Nat → Nat → Int32) (x : Int32), f ≠ 0 → FLT f I2 K → SRES J rj rq mj mq n T S0 F0 bb p0 B ob cm (g_X4_readEither_L34 J rj rq N x (i + Int32.ofInt 1) K rk) (f, I', J', r', mj, mq) (tmM (I' 391).toInt (I' 393).toInt) := fun f K rk x hf hF => ⟨f, I', J', r', rfl, Or.inl ⟨hf, s, b2, FIN_f hF g2 hf, lw0⟩⟩
      -- a number or a NAME
      have one : ∀ (a b : Int32) (I3 : Nat → Int32) (r3 : Nat → Nat → Int32), s < n → (∀ f, f ≠ 132 → I3 f = I2 f) → (∀ t, t ≠ 259 → r3 t = r t) → ∀ x : Int32, ES I3 r3 = emL (ES I2 r) [x] → en x = (a, b) → ((0 ≤ x.toInt ∧ x.toInt ≤ 9999) ∨ (-17 ≤ x.toInt ∧ x.toInt ≤ -12)) → SRES J rj rq mj mq n T S0 F0 bb p0 B ob cm (g_X4_readEither_L34 J rj rq N 0 (i + Int32.ofInt 1) I3 r3) (bnI (bnV (g_X12_emit a b I' J' r' mj mq) fun (I4 : Nat → Int32) (_ : Nat → Int64) (r4 : Nat → Nat → Int32) (_ : Nat → Nat → Int64) (_ : Nat → Nat → Option Nat) => bnV (g_X12_nextToken_x I4 J' r4 mj mq) fun (I5 : Nat → Int32) (J5 : Nat → Int64) (_ : Nat → Nat → Int32) (_ : Nat → Nat → Int64) (_ : Nat → Nat → Option Nat) => bnV (g_X12_whole I5 J5 r4 mj mq) fun (I6 : Nat → Int32) (_ : Nat → Int64) (r6 : Nat → Nat → Int32) (_ : Nat → Nat → Int64) (_ : Nat → Nat → Option Nat) => (((0 : Int32), I6, J5, r6, mj, mq) : Int32 × vM)) fun (x : Int32) (I7 : Nat → Int32) (J7 : Nat → Int64) (r7 : Nat → Nat → Int32) (_ : Nat → Nat → Int64) (_ : Nat → Nat → Option Nat) => if x = (0 : Int32) then g_X12_sum_L10 mj mq m I7 J7 r7 else (x, I7, J7, r7, mj, mq)) (tmM (I' 391).toInt (I' 393).toInt) := fun a b I3 r3 hs hI3 hr3 x hx hen hxp => by
        obtain ⟨w1, w2, w3, w4⟩ := ok_W P hO
        obtain ⟨I6, J6, r6, e1, e2, e3, e4, e5⟩ := one_m (mj := mj) (mq := mq) h3 hb hR hle.2.2.1 (by omega) (by omega) (by omega) ht' a b
        rw [bn_n e1, if_pos (show (0 : Int32) = 0 from rfl)]
        obtain ⟨n1, n2⟩ := tm_nx h3 hR (cn33 hs) e2 ht'
        have hC3 := CST_fr hC2 hI3 hr3
        rw [map_W P, List.append_assoc, ← w3] at hC3
        have lW : P.length = cntW P + (popW P).length := by
          have := congrArg List.length (map_W P)
          rw [List.length_map, List.length_append, List.length_replicate, List.length_map] at this
          exact this
        have hE3 : ES I3 r3 = emL S0 (E ++ [x]) := by rw [hx, hE2, emL_app]
        have hF3 : FS I6 r6 = fmL bb F0 (((E ++ [x]) ++ List.replicate (cntW P) (-35)).map en) := by
          rw [e4, hbb, hF, ← fmL_app, List.map_append, List.map_append, List.map_replicate, en_35, List.append_assoc]
          show _ = fmL bb F0 (E.map en ++ (en x :: List.replicate (cntW P) (2, 0)))
          rw [hen]
        have hl3 : (E ++ [x]).length = E.length + 1 := by rw [List.length_append]; rfl
        have hT3 : eTr ((E ++ [x]) ++ List.replicate (cntW P) (-35)) [] = some (false :: eTy ((popW P).map mpc ++ B)) := by
          have yl := eTy_len (P.map mpc ++ B)
          refine eTr_2 (eTr_2 hTr ((eTr_c (eTs_p hxp (by omega))).trans rfl)) ?_
          rw [map_W P, List.append_assoc, eTy_rep (Or.inr (Or.inr rfl))]
          exact eTr_35 _
        have hse3 := hle.2.2.2.2 hs
        have oo : o - cntW P + cntW P = o := by omega
        refine SRES_w (ihB N (i + Int32.ofInt 1) I3 r3 m I6 J6 r6 (popW P) (cntW P) (o - cntW P) e c' v' s' e' ?_ (by rw [oo]; exact hC3) ht' e2 e3 w1 w2 (by omega) (by omega) (by rw [i1 hs]; omega) (by rw [i1 hs]; omega) (by rw [i1 hs]; omega) (by omega) (E ++ [x]) hE3 hF3 (e5.trans hbb) (by omega) hT3) (by omega)
        have := hle.2.2.2.2 hs
        omega
      -- ( or - of one ONE
      have opn : ∀ (t b : Int32), (t = 29 ∧ b = 40 ∧ c = 29) ∨ (t = 35 ∧ b = 2 ∧ c = 26) → SRES J rj rq mj mq n T S0 F0 bb p0 B ob cm (bnI (g_X4_readOne I2 J r rj rq) fun (x : Int32) (I3 : Nat → Int32) (_ : Nat → Int64) (r3 : Nat → Nat → Int32) (_ : Nat → Nat → Int64) (_ : Nat → Nat → Option Nat) => g_X4_readEither_L34 J rj rq N x (i + Int32.ofInt 1) I3 r3) (bnI (if I' 402 = 8 then (((3 : Int32), I', J', r', mj, mq) : Int32 × vM) else bnV (g_X12_push b (va_up I' 402 (I' 402 + 1)) J' r' mj mq) fun (I4 : Nat → Int32) (_ : Nat → Int64) (r4 : Nat → Nat → Int32) (_ : Nat → Nat → Int64) (_ : Nat → Nat → Option Nat) => bnV (g_X12_nextToken_x I4 J' r4 mj mq) fun (I5 : Nat → Int32) (J5 : Nat → Int64) (_ : Nat → Nat → Int32) (_ : Nat → Nat → Int64) (_ : Nat → Nat → Option Nat) => (((0 : Int32), I5, J5, r4, mj, mq) : Int32 × vM)) fun (x : Int32) (I7 : Nat → Int32) (J7 : Nat → Int64) (r7 : Nat → Nat → Int32) (_ : Nat → Nat → Int64) (_ : Nat → Nat → Option Nat) => if x = (0 : Int32) then g_X12_sum_L10 mj mq m I7 J7 r7 else (x, I7, J7, r7, mj, mq)) (tmM (I' 391).toInt (I' 393).toInt) := fun t b htb => by
        have hs : s < n := no33 (by rcases htb with ⟨_, _, y⟩ | ⟨_, _, y⟩ <;> rw [y] <;> decide)
        have tt : t = 29 ∨ t = 11 ∨ t = 35 := by rcases htb with ⟨y, _⟩ | ⟨y, _⟩; exact Or.inl y; exact Or.inr (Or.inr y)
        have op : (I2 194 = 26 ∧ t = 35) ∨ (I2 194 = 29 ∧ t = 29) ∨ (I2 194 = 11 ∧ I2 137 ≠ 0 ∧ t = 11) := by
          rw [g1]
          rcases htb with ⟨y, _, z⟩ | ⟨y, _, z⟩
          · exact Or.inr (Or.inl ⟨z, y⟩)
          · exact Or.inl ⟨z, y⟩
        have k8 : (8 : Int32).toInt = ((8 : Nat) : Int) := by decide
        by_cases q : o = 8
        · rw [if_pos ((eq_n d1 k8).mpr q), bn_n (show ((3 : Int32), I', J', r', mj, mq) = ((3 : Int32), I', J', r', mj, mq) from rfl), if_neg (show ¬ (3 : Int32) = 0 by decide)]
          obtain ⟨K, rk, e1, e2⟩ := open_f (J := J) (ri := r) (rj := rj) (rq := rq) (t := t) z5 (by omega)
          rw [bn_n (ro_op op e1)]
          exact flt 3 K rk 1 (by decide) e2
        · rw [if_neg (fun y => q ((eq_n d1 k8).mp y))]
          obtain ⟨K, e1, e2, e3, e4, e5, e6⟩ := open_v (J := J) (ri := r) (rj := rj) (rq := rq) tt x1 (by omega) y1 (by omega)
          rw [bn_n (ro_op op e1)]
          have w1 : (va_up I' 402 (I' 402 + 1) 401).toInt = (P.length : Int) := by rw [va_up_ne _ _ (show (401 : Nat) ≠ 402 by decide)]; exact c1
          rw [bv_n (push_m w1)]
          have zz : ∀ f, f ≠ 401 → f ≠ 402 → va_up (va_up I' 402 (I' 402 + 1)) 401 (va_up I' 402 (I' 402 + 1) 401 + 1) f = I' f := fun f f1 f2 => by rw [va_up_ne _ _ f1, va_up_ne _ _ f2]
          have hl : (b :: P).length = P.length + 1 := rfl
          have hR2 : RST n T c v s e (b :: P) (o + 1) (va_up (va_up I' 402 (I' 402 + 1)) 401 (va_up I' 402 (I' 402 + 1) 401 + 1)) J' (va_up r' 400 (upd (r' 400) P.length b)) := by
            refine ⟨⟨by rw [zz 388 (by decide) (by decide)]; exact a1, by rw [va_up_ne _ _ (show (387 : Nat) ≠ 400 by decide)]; exact a2⟩, ⟨by rw [zz 391 (by decide) (by decide)]; exact b1, by rw [zz 392 (by decide) (by decide)]; exact b2, TKF_fr b3 (zz 393 (by decide) (by decide)) (zz 394 (by decide) (by decide))⟩, ⟨?_, ?_⟩, ?_⟩
            · rw [va_up_self, hl]; exact upN w1 (by omega)
            · rw [va_up_self, hl, stl_push, c2]
            · rw [va_up_ne _ _ (show (402 : Nat) ≠ 401 by decide), va_up_self]; exact upN d1 (by omega)
          obtain ⟨I5, J5, f1, f2, f3⟩ := RST_n (mj := mj) (mq := mq) h3 hb hR2 hle.2.2.1 ht'
          rw [bv_n f1, bn_n rfl, if_pos (show (0 : Int32) = 0 from rfl)]
          obtain ⟨n1, n2⟩ := tm_nx h3 hR (cn33 hs) f2 ht'
          have mb : mpc b = t := by rcases htb with ⟨y, z, _⟩ | ⟨y, z, _⟩ <;> rw [y, z] <;> decide
          have hC3 : CST n e T ((b :: P).map mpc ++ B) (o + 1) (cn40 (b :: P)) cm K (va_up r 133 (upd (r 133) (P.map mpc ++ B).length t)) := by
            have el : (b :: P).map mpc ++ B = t :: (P.map mpc ++ B) := by
              show mpc b :: (P.map mpc ++ B) = _
              rw [mb]
            rw [el]
            refine ⟨⟨by rw [e6 193 (by decide) (by decide) (by decide) (by decide)]; exact z1, by rw [va_up_ne _ _ (show (192 : Nat) ≠ 133 by decide)]; exact z2, by rw [e6 197 (by decide) (by decide) (by decide) (by decide)]; exact z3, z4, by rw [e6 129 (by decide) (by decide) (by decide) (by decide)]; exact z5, by rw [e6 139 (by decide) (by decide) (by decide) (by decide)]; exact z6⟩, ⟨e3, ?_⟩, e2, ?_, by rw [e6 138 (by decide) (by decide) (by decide) (by decide)]; exact x3⟩
            · show stl _ ((P.map mpc ++ B).length + 1) = _
              rw [va_up_self, stl_push, y2]
            · rw [e4]
              rcases htb with ⟨y, z, _⟩ | ⟨y, z, _⟩
              · rw [if_pos y, z]
                show (I2 136 + 1).toInt = (((if (40 : Int32) = 40 then 1 else 0) + cn40 P : Nat) : Int)
                rw [if_pos rfl]
                have := upN x2 (by omega)
                omega
              · rw [if_neg (show ¬ t = 29 by rw [y]; decide), z, c40_n (show (2 : Int32) ≠ 40 by decide)]
                exact x2
          have ok2 : okP 0 (b :: P) := by
            rcases htb with ⟨_, z, _⟩ | ⟨_, z, _⟩
            · exact Or.inl ⟨z, hO⟩
            · exact Or.inr (Or.inl ⟨z, rfl, hO⟩)
          have cnt : o + 1 = ob + cn40 (b :: P) + cn2 (b :: P) := by
            rcases htb with ⟨_, z, _⟩ | ⟨_, z, _⟩
            · rw [z, c2_n (show (40 : Int32) ≠ 2 by decide)]
              show _ = ob + ((if (40 : Int32) = 40 then 1 else 0) + cn40 P) + cn2 P
              rw [if_pos rfl]; omega
            · rw [z, c40_n (show (2 : Int32) ≠ 40 by decide)]
              show _ = ob + cn40 P + ((if (2 : Int32) = 2 then 1 else 0) + cn2 P)
              rw [if_pos rfl]; omega
          have w403 : I5 403 = 0 := by rw [f3 403 (by decide) (by decide) (by decide) (by decide), zz 403 (by decide) (by decide)]; exact hw
          have hE3 : ES K (va_up r 133 (upd (r 133) (P.map mpc ++ B).length t)) = emL S0 E := (ES_eq (e6 132 (by decide) (by decide) (by decide) (by decide)) (va_up_ne _ _ (by decide))).trans hE2
          have hF3 : FS I5 (va_up r' 400 (upd (r' 400) P.length b)) = fmL bb F0 (E.map en) := (FS_eq ((f3 398 (by decide) (by decide) (by decide) (by decide)).trans (zz 398 (by decide) (by decide))) (va_up_ne _ _ (by decide))).trans hF
          have hb3 : I5 396 = bb := ((f3 396 (by decide) (by decide) (by decide) (by decide)).trans (zz 396 (by decide) (by decide))).trans hbb
          have hse3 := hle.2.2.2.2 hs
          refine SRES_w (ihD N (i + Int32.ofInt 1) K _ m I5 J5 _ (b :: P) (o + 1) e c' v' s' e' ?_ hC3 ht' f2 w403 ok2 cnt (by omega) (Or.inl ?_) (by rw [i1 hs]; omega) (by rw [i1 hs]; omega) (by rw [i1 hs]; omega) (by omega) E hE3 hF3 hb3 (by omega) (by
            show eTr E [] = some (eTy (mpc b :: (P.map mpc ++ B)))
            rw [mb, eTy_no (by rcases tt with y | y | y; exact Or.inr (Or.inl y); exact Or.inl y; exact Or.inr (Or.inr y))]
            exact hTr) 1 (by decide)) (by omega)
          · have := hle.2.2.2.2 hs
            omega
          · rw [e5, if_neg (show ¬ t = 11 by rcases htb with ⟨y, _⟩ | ⟨y, _⟩ <;> rw [y] <;> decide)]
      -- which TOKEN it is
      rw [g_X12_beginOne_e]
      try simp only [↓ap1_n]
      by_cases q18 : c = 18
      · have hs := no33 (by rw [q18]; decide)
        have hv := tv q18
        have k9 : (9999 : Int32).toInt = 9999 := by decide
        rw [if_pos (t18.mpr q18)]
        by_cases w : I' 394 ≤ 9999
        · have w1 := Int32.le_iff_toInt_le.mp w
          have v9 : (I2 196).toInt ≤ 9999 := by
            rw [g3 q18]
            rcases hv with ⟨u1, u2, u3⟩ | ⟨u1, u2, u3⟩
            · rw [u3]; exact u2
            · omega
          rw [if_pos w]
          obtain ⟨I3, r3, e1, e2, e3, e4⟩ := ro_num (J := J) (ri := r) (rj := rj) (rq := rq) (I := I2) (by rw [g1, q18]) v9
          rw [bn_n e1]
          exact one _ _ I3 r3 hs e2 e3 _ e4 (en_num (g3 q18) hv (by omega)) (Or.inl (by
            rw [g3 q18]
            rcases hv with ⟨u1, u2, u3⟩ | ⟨u1, u2, u3⟩
            · rw [u3]; omega
            · omega))
        · have w1 := Int32.lt_iff_toInt_lt.mp (Int32.not_le.mp w)
          have v9 : 9999 < (I2 196).toInt := by
            rw [g3 q18]
            rcases hv with ⟨u1, u2, u3⟩ | ⟨u1, u2, u3⟩ <;> omega
          rw [if_neg w, bn_n (show ((2 : Int32), I', J', r', mj, mq) = ((2 : Int32), I', J', r', mj, mq) from rfl), if_neg (show ¬ (2 : Int32) = 0 by decide)]
          obtain ⟨K, rk, e1, e2⟩ := ro_big (J := J) (ri := r) (rj := rj) (rq := rq) (I := I2) z5 (by rw [g1, q18]) v9
          rw [bn_n e1]
          exact flt 2 K rk 0 (by decide) e2
      · have n1 : ¬ I' 393 = 1 := fun y => q18 (t18.mp y)
        rw [if_neg n1, if_neg n1, bn_n (name_x b3)]
        by_cases qn : 12 ≤ c.toInt ∧ c.toInt ≤ 17
        · have hs := no33 (fun y => by rw [y] at qn; exact absurd qn.2 (by decide))
          have nn : ¬ nmC c < 0 := nmC_ge qn
          rw [if_neg nn, if_neg n1, if_neg n1]
          rw [bn_n (name_x b3)]
          obtain ⟨I3, r3, e1, e2, e3, e4⟩ := ro_name (J := J) (ri := r) (rj := rj) (rq := rq) (I := I2) (by rw [g1]; exact qn)
          rw [bn_n e1]
          exact one _ _ I3 r3 hs e2 e3 _ e4 (by rw [g1]; exact en_name qn) (Or.inr (by
            rw [g1, ng_i (c := c) (by omega)]
            omega))
        · rw [if_pos (nmC_lt qn)]
          by_cases q29 : c = 29
          · rw [if_pos (s29.mpr q29)]
            exact opn 29 40 (Or.inl ⟨rfl, rfl, q29⟩)
          · rw [if_neg (show ¬ I' 393 = 40 from fun y => q29 (s29.mp y))]
            by_cases q26 : c = 26
            · rw [if_pos (s26.mpr q26)]
              exact opn 35 2 (Or.inr ⟨rfl, rfl, q26⟩)
            · rw [if_neg (show ¬ I' 393 = 45 from fun y => q26 (s26.mp y)), bn_n (show ((1 : Int32), I', J', r', mj, mq) = ((1 : Int32), I', J', r', mj, mq) from rfl), if_neg (show ¬ (1 : Int32) = 0 by decide)]
              obtain ⟨K, e1, e2⟩ := ro_no (J := J) (ri := r) (rj := rj) (rq := rq) (I := I2) z5 (by rw [g1]; exact q18) (by rw [g1]; exact qn) (by rw [g1]; exact q26) (by rw [g1]; exact q29) (by rw [g1, hA]; rcases haa with y | y; exact Or.inr y; exact Or.inl y)
              rw [bn_n e1]
              exact flt 1 K r 1 (by decide) e2
    · -- behind a ONE
      intro N i I r m I' J' r' P q o p c v s e hk hC ht hR hw hO hno ho ho8 hi0 hip hN hm E hE hF hbb hEl hTr
      have hle := TKC_le ht
      have hpl := okP_len P 0 (by decide) hO
      have hN0 : (301 - i.toInt).toNat < N := hN
      cases N with
      | zero => exact absurd hN (Nat.not_lt_zero _)
      | succ N =>
      cases m with
      | zero => exact absurd hm (Nat.not_lt_zero _)
      | succ m =>
      obtain ⟨I2, ⟨g1, g2, g3⟩, hC2, ⟨hA, hA2⟩, _, hD⟩ := CL_s (J := J) (rj := rj) (rq := rq) h3 hC ht (i := i) (by omega) N
      have hE2 : ES I2 r = emL S0 E := (ES_eq hA2 rfl).trans hE
      have hR' := hR
      obtain ⟨⟨a1, a2⟩, ⟨b1, b2, b3⟩, ⟨c1, c2⟩, d1⟩ := hR'
      have hC2' := hC2
      obtain ⟨⟨z1, z2, z3, z4, z5, z6⟩, ⟨y1, y2⟩, x1, x2, x3⟩ := hC2'
      have lenL : (List.replicate q (35 : Int32) ++ (P.map mpc ++ B)).length = q + (P.length + B.length) := by rw [List.length_append, List.length_append, List.length_map, List.length_replicate]
      have mem := cn_mem P
      have h35 : ∀ a : Int32, a.toInt ≤ 7 → ¬ g_X4_rank 35 < a := fun a ha y => by
        have y1 := Int32.lt_iff_toInt_lt.mp y
        have k : (g_X4_rank 35).toInt = 7 := by decide
        omega
      rw [g_X12_sum_L10_e]
      try simp only [↓ap1_n]
      rw [if_neg (show ¬ I' 403 = 0 by rw [hw]; decide)]
      by_cases hg : goC c P
      · -- it goes on
        have hg' : goC c (stl (r' 400) P.length) := by rw [c2]; exact hg
        rw [bn_n (goes_1 b3 c1 (by omega) hg'), if_neg (show ¬ (1 : Int32) = 0 by decide), hD]
        have hc33 : c ≠ 33 := by
          rcases hg with y | y | y | y | ⟨y, _⟩ <;> rw [y] <;> decide
        have hs : s < n := by
          rcases ht.2 with ⟨_, _, w3⟩ | ⟨w1, _⟩ | ⟨w1, _⟩ | ⟨w1, _⟩
          · exact absurd w3 hc33
          · exact w1
          · exact w1
          · exact w1
        have hse := hle.2.2.2.2 hs
        have i1 : (i + Int32.ofInt 1).toInt = i.toInt + 1 := t1_inc (by omega) (by omega)
        obtain ⟨c', s', e', v', ht'⟩ := TKC_ex T hC2.1.2.2.2.1
        obtain ⟨I5, J5, f1, f2, f3⟩ := RST_n (mj := mj) (mq := mq) h3 hb hR hle.2.2.1 ht'
        obtain ⟨n1, n2⟩ := tm_nx h3 hR hc33 f2 ht'
        rw [g_X12_behindOne_e]
        try simp only [↓ap1_n]
        rw [bv_n f1]
        obtain ⟨t0, t18, t33, s19, s20, s21, s22, s23, s24, s25, s26, s27, s28, s29, s30, s31, s32, t2, tv, tw⟩ := b3
        by_cases q30 : c = 30
        · -- )
          have hm40 : (40 : Int32) ∈ P := by
            rcases hg with y | y | y | y | ⟨_, y⟩
            · rw [q30] at y; exact absurd y (by decide)
            · rw [q30] at y; exact absurd y (by decide)
            · rw [q30] at y; exact absurd y (by decide)
            · rw [q30] at y; exact absurd y (by decide)
            · exact y
          obtain ⟨P2, p1, p2, p3, p4, p5, p6, p7⟩ := pop_1 (B := B) P 0 hO (Or.inr hno) hm40
          obtain ⟨r1, r2, r3⟩ := pop_rep (a := 1) (h35 1 (by decide)) (L := P.map mpc ++ B) q
          obtain ⟨w1, w2, w3, w4⟩ := ok_W P2 p4
          rw [if_pos (s30.mpr q30)]
          obtain ⟨⟨d1', d2'⟩, ⟨d3', d4', d5'⟩, ⟨d6', d7'⟩, d8'⟩ := f2
          obtain ⟨I6, r6, w', k1, k2, k3, k4, k5, k50⟩ := setM_v (J := J5) (ri := r') (rj := mj) (rq := mq) (a := 3) d6' (by omega)
          rw [d7', p1] at k3
          rw [d7'] at k50
          have lw : w' = P2.length + 1 := by
            have := congrArg List.length k3
            rw [stl_len] at this
            exact this
          subst lw
          have k6 : stl (r6 400) P2.length = P2 := (List.cons.inj (show r6 400 P2.length :: stl (r6 400) P2.length = 40 :: P2 from k3)).2
          rw [bv_n k1]
          try simp only [↓ap1_n]
          have u2 : va_up I6 401 (I6 401 - 1) 402 = I6 402 := va_up_ne _ _ (by decide)
          rw [u2]
          have hl2 := okP_len P2 0 (by decide) p4
          have m1 : (I6 401 - 1).toInt = (P2.length : Int) := by
            have := i_sub (x := I6 401) (y := 1) rfl (show (1 : Int32).toInt = 1 by decide) (by omega) (by omega)
            omega
          have o6 : (I6 402).toInt = (o : Int) := by rw [k4 402 (by decide) (by decide)]; exact d8'
          have m2 : (I6 402 - 1).toInt = (o : Int) - 1 := by
            have := i_sub (x := I6 402) (y := 1) rfl (show (1 : Int32).toInt = 1 by decide) (by omega) (by omega)
            omega
          obtain ⟨I7, r7, w7, l1, l2, l3, l4, l5, l6, l7, l8⟩ := whole_v (J := J5) (ri := r6) (rj := mj) (rq := mq) (I := va_up (va_up I6 401 (I6 401 - 1)) 402 (I6 402 - 1)) (w := P2.length) (by rw [va_up_ne _ _ (show (401 : Nat) ≠ 402 by decide), va_up_self]; exact m1) (by have := okP_len P2 0 (by decide) p4; omega) (by rw [k6, va_up_self]; omega) (by rw [va_up_self]; omega)
          rw [bv_n l1, bv_n rfl]
          rw [k6] at l3 l4 l8
          rw [va_up_self] at l4
          have lw7 : w7 = (popW P2).length := by rw [← l3, stl_len]
          subst lw7
          have zz : ∀ f, f ≠ 398 → f ≠ 401 → f ≠ 402 → f ≠ 403 → I7 f = I5 f := fun f h1 h2 h3 h4 => by rw [l6 f h1 h2 h3 h4, va_up_ne _ _ h3, va_up_ne _ _ h2]; exact k4 f h1 h2
          have hR7 : RST n T c' v' s' e' (popW P2) (o - 1 - cntW P2) I7 J5 r7 := ⟨⟨by rw [zz 388 (by decide) (by decide) (by decide) (by decide)]; exact d1', by rw [l7 387 (by decide), k5 387 (by decide)]; exact d2'⟩, ⟨by rw [zz 391 (by decide) (by decide) (by decide) (by decide)]; exact d3', by rw [zz 392 (by decide) (by decide) (by decide) (by decide)]; exact d4', TKF_fr d5' (zz 393 (by decide) (by decide) (by decide) (by decide)) (zz 394 (by decide) (by decide) (by decide) (by decide))⟩, ⟨l2, l3⟩, by omega⟩
          obtain ⟨K, rk, e1, e2, e3, e4, e5, e6, e7, e8, e9⟩ := rb_close (J := J) (ri := r) (rj := rj) (rq := rq) (I := I2) (w := (List.replicate q (35 : Int32) ++ (P.map mpc ++ B)).length) (o := o + q) (b := cn40 P2) (x := 29) (L := P2.map mpc ++ B) (by rw [g1, q30]) (by rw [x2, p5]) (by omega) y1 (by omega) x1 (by rw [y2, r2, p3]; omega) (by omega) (by rw [y2, r1, p2])
          rw [bn_n e1]
          rw [y2, r2, p3] at e4
          rw [y2, r3, hE2, ← emL_app] at e9
          have a396 : I5 396 = bb := (f3 396 (by decide) (by decide) (by decide) (by decide)).trans hbb
          have b396 : I6 396 = bb := (k4 396 (by decide) (by decide)).trans a396
          have aF : FS I5 r' = fmL bb F0 ((E ++ List.replicate q (-35)).map en) := (FS_eq (f3 398 (by decide) (by decide) (by decide) (by decide)) rfl).trans hF
          rw [FS_I (by decide), FS_I (by decide), va_up_ne _ _ (show (396 : Nat) ≠ 402 by decide), va_up_ne _ _ (show (396 : Nat) ≠ 401 by decide), b396, k50, a396, aF, ← p7, ← en_35, ← List.map_replicate (f := en), ← fmL_app, ← fmL_app, ← List.map_append, ← List.map_append] at l8
          have lP : P.length = (popE 1 (P.map mpc ++ B)).length + P2.length + 1 := by
            have x1 := popE_len (a := 1) (P.map mpc ++ B)
            rw [p2] at x1
            simp only [List.length_append, List.length_map, List.length_cons] at x1
            omega
          have lW : P2.length = cntW P2 + (popW P2).length := by
            have := congrArg List.length (map_W P2)
            rw [List.length_map, List.length_append, List.length_replicate, List.length_map] at this
            exact this
          have hC3 : CST n e T (List.replicate (cntW P2) 35 ++ ((popW P2).map mpc ++ B)) (o - 1 - cntW P2 + cntW P2) (cn40 (popW P2)) cm K rk := by
            rw [w3, ← List.append_assoc, ← map_W P2]
            exact ⟨⟨by rw [e7 193 (by decide) (by decide) (by decide) (by decide) (by decide)]; exact z1, by rw [e8 192 (by decide)]; exact z2, by rw [e7 197 (by decide) (by decide) (by decide) (by decide) (by decide)]; exact z3, z4, by rw [e7 129 (by decide) (by decide) (by decide) (by decide) (by decide)]; exact z5, by rw [e7 139 (by decide) (by decide) (by decide) (by decide) (by decide)]; exact z6⟩, ⟨e2, e3⟩, by omega, e5, by rw [e7 138 (by decide) (by decide) (by decide) (by decide) (by decide)]; exact x3⟩
          have tq : tmM (I7 391).toInt (I7 393).toInt = tmM (I5 391).toInt (I5 393).toInt := by rw [zz 391 (by decide) (by decide) (by decide) (by decide), zz 393 (by decide) (by decide) (by decide) (by decide)]
          have hT9 : eTr ((E ++ (List.replicate q (-35) ++ popE 1 (P.map mpc ++ B))) ++ List.replicate (cntW P2) (-35)) [] = some (false :: eTy ((popW P2).map mpc ++ B)) := by
            have m29 : (29 : Int32) ∈ P.map mpc := List.mem_map.mpr ⟨40, hm40, by decide⟩
            have y1 := eTr_pop (a := 1) (by decide) (P.map mpc) B (eAr_P P 0 hO) (Or.inl m29)
            rw [p2, eTy_no (Or.inr (Or.inl rfl)), map_W P2, List.append_assoc, eTy_rep (Or.inr (Or.inr rfl))] at y1
            rw [← List.append_assoc E]
            exact eTr_2 (eTr_2 hTr y1) (eTr_35 _)
          exact SRES_w (ihB N (i + Int32.ofInt 1) K rk m I7 J5 r7 (popW P2) (cntW P2) (o - 1 - cntW P2) e c' v' s' e' (by omega) hC3 ht' hR7 l5 w1 w2 (by omega) (by omega) (by omega) (by omega) (by omega) (by rw [tq]; omega) _ e9 (by rw [l8]; simp only [List.append_assoc]) (by rw [zz 396 (by decide) (by decide) (by decide) (by decide)]; exact a396) (by simp only [List.length_append, List.length_replicate]; omega) hT9) (by rw [tq]; omega)
        · rw [if_neg (show ¬ I' 393 = 41 from fun y => q30 (s30.mp y))]
          -- + - * /
          have sign : ∀ (a1' b1' am : Int32), g_X4_rank c = a1' → mpc b1' = c → (popR a1' (P.map mpc ++ B) = (popM am P).map mpc ++ B ∧ popN a1' (P.map mpc ++ B) = 0 ∧ cn40 (popM am P) = cn40 P ∧ cn2 (popM am P) = cn2 P ∧ (popE a1' (P.map mpc ++ B)).map en = popF am P) → okP 0 (b1' :: popM am P) → b1' ≠ 40 → b1' ≠ 2 → a1'.toInt ≤ 7 → 1 ≤ a1'.toInt → popR a1' B = B → (25 ≤ c.toInt ∧ c.toInt ≤ 28) → SRES J rj rq mj mq n T S0 F0 bb p0 B ob cm (bnI (g_X4_readBehindOne I2 J r rj rq) fun (x : Int32) (I3 : Nat → Int32) (_ : Nat → Int64) (r3 : Nat → Nat → Int32) (_ : Nat → Nat → Int64) (_ : Nat → Nat → Option Nat) => g_X4_readEither_L34 J rj rq N x (i + Int32.ofInt 1) I3 r3) (bnV (bnV (g_X12_settle am I5 J5 r' mj mq) fun (I4 : Nat → Int32) (_ : Nat → Int64) (r4 : Nat → Nat → Int32) (_ : Nat → Nat → Int64) (_ : Nat → Nat → Option Nat) => bnV (g_X12_push b1' I4 J5 r4 mj mq) fun (I6 : Nat → Int32) (_ : Nat → Int64) (r6 : Nat → Nat → Int32) (_ : Nat → Nat → Int64) (_ : Nat → Nat → Option Nat) => ((va_up I6 403 0, J5, r6, mj, mq) : vM)) fun (I7 : Nat → Int32) (J7 : Nat → Int64) (r7 : Nat → Nat → Int32) (_ : Nat → Nat → Int64) (_ : Nat → Nat → Option Nat) => g_X12_sum_L10 mj mq m I7 J7 r7) (tmM (I' 391).toInt (I' 393).toInt + 1) := fun a1' b1' am ha hmb hpop hok h40 h2' ha7 ha1 hBr hcc => by
            obtain ⟨u1, u2, u3, u4, u5⟩ := hpop
            obtain ⟨r1, r2, r3⟩ := pop_rep (a := a1') (h35 a1' ha7) (L := P.map mpc ++ B) q
            obtain ⟨I7, r7, v1, v2, v3, v4, v5⟩ := op_m (mj := mj) (mq := mq) f2 (by omega) am b1'
            rw [bv_n v1]
            have pm : (popM am P).length ≤ 40 := by
              have := okP_len (b1' :: popM am P) 0 (by decide) hok
              rw [c40_n h40, c2_n h2', u3, u4] at this
              have hl : (b1' :: popM am P).length = (popM am P).length + 1 := rfl
              omega
            rw [rb_op (by rw [g1]; exact hcc), g1, ha]
            obtain ⟨K, rk, e1, e2, e3, e4, e5, e6, e7⟩ := sa_v (J := J) (ri := r) (rj := rj) (rq := rq) (a := a1') (c := c) (K := va_up I2 137 0) (w := (List.replicate q (35 : Int32) ++ (P.map mpc ++ B)).length) (o := o + q) (by rw [va_up_ne _ _ (show (134 : Nat) ≠ 137 by decide)]; exact y1) (by omega) (by rw [va_up_ne _ _ (show (135 : Nat) ≠ 137 by decide)]; exact x1) (by rw [y2, r2, u2]; omega) (by omega)
            rw [bn_n e1]
            rw [y2, r1, u1] at e2 e3
            rw [y2, r2, u2] at e4
            rw [y2, r3, ES_I (by decide), hE2, ← emL_app] at e7
            have a396 : I5 396 = bb := (f3 396 (by decide) (by decide) (by decide) (by decide)).trans hbb
            have aF : FS I5 r' = fmL bb F0 ((E ++ List.replicate q (-35)).map en) := (FS_eq (f3 398 (by decide) (by decide) (by decide) (by decide)) rfl).trans hF
            rw [a396, aF, ← u5, ← fmL_app, ← List.map_append, List.append_assoc] at v4
            have lP : (popE a1' (P.map mpc ++ B)).length + (popM am P).length = P.length := by
              have x1 := popE_len (a := a1') (P.map mpc ++ B)
              rw [u1] at x1
              simp only [List.length_append, List.length_map] at x1
              omega
            have hl1 : (b1' :: popM am P).length = (popM am P).length + 1 := rfl
            have fr : ∀ f, f ≠ 132 → f ≠ 134 → f ≠ 135 → f ≠ 137 → K f = I2 f := fun f h1 h2 h3 h4 => (e5 f h1 h2 h3).trans (va_up_ne _ _ h4)
            have hC3 : CST n e T ((b1' :: popM am P).map mpc ++ B) o (cn40 (b1' :: popM am P)) cm K rk := by
              have el : (b1' :: popM am P).map mpc ++ B = c :: ((popM am P).map mpc ++ B) := by
                show mpc b1' :: _ = _
                rw [hmb]; rfl
              rw [el, c40_n h40, u3]
              exact ⟨⟨by rw [fr 193 (by decide) (by decide) (by decide) (by decide)]; exact z1, by rw [e6 192 (by decide) (by decide)]; exact z2, by rw [fr 197 (by decide) (by decide) (by decide) (by decide)]; exact z3, z4, by rw [fr 129 (by decide) (by decide) (by decide) (by decide)]; exact z5, by rw [fr 139 (by decide) (by decide) (by decide) (by decide)]; exact z6⟩, ⟨e2, e3⟩, by omega, by rw [fr 136 (by decide) (by decide) (by decide) (by decide)]; exact x2, by rw [fr 138 (by decide) (by decide) (by decide) (by decide)]; exact x3⟩
            have k137 : K 137 = 0 := by rw [e5 137 (by decide) (by decide) (by decide), va_up_self]
            have hT7 : eTr (E ++ (List.replicate q (-35) ++ popE a1' (P.map mpc ++ B))) [] = some (eTy ((b1' :: popM am P).map mpc ++ B)) := by
              have y1 := eTr_pop (a := a1') ha1 (P.map mpc) B (eAr_P P 0 hO) (Or.inr hBr)
              rw [u1] at y1
              rw [← List.append_assoc]
              show _ = some (eTy (mpc b1' :: ((popM am P).map mpc ++ B)))
              rw [hmb, eTy_v (by omega)]
              exact eTr_2 hTr y1
            have tq : tmM (I7 391).toInt (I7 393).toInt = tmM (I5 391).toInt (I5 393).toInt := by
              obtain ⟨_, ⟨p1, p2, p3⟩, _, _⟩ := v2
              obtain ⟨_, ⟨q1, q2, q3⟩, _, _⟩ := f2
              unfold tmM
              rw [p1, q1]
              by_cases y : c' = 33
              · rw [p3.2.2.1.mpr y, q3.2.2.1.mpr y]
              · have k0 : (0 : Int32).toInt = 0 := by decide
                rw [if_neg (fun z => y (p3.2.2.1.mp (Int32.toInt_inj.mp (z.trans k0.symm)))), if_neg (fun z => y (q3.2.2.1.mp (Int32.toInt_inj.mp (z.trans k0.symm))))]
            exact SRES_w (ihD N (i + Int32.ofInt 1) K rk m I7 J5 r7 (b1' :: popM am P) o e c' v' s' e' (by omega) hC3 ht' v2 v3 hok (by rw [c40_n h40, c2_n h2', u3, u4]; exact ho) (by omega) (Or.inl k137) (by omega) (by omega) (by omega) (by rw [tq]; omega) _ e7 v4 (v5.trans a396) (by simp only [List.length_append, List.length_replicate]; omega) hT7 1 (by decide)) (by rw [tq]; omega)
          obtain ⟨v1, v2, v3, v4, v5, v6, v7⟩ := pop_5 hB P 0 hO (Or.inr hno)
          obtain ⟨w1, w2, w3, w4, w5, w6, w7⟩ := pop_6 hB P 0 hO (Or.inr hno)
          have B5r : popR 5 B = B := by
            cases B with
            | nil => rfl
            | cons x B => exact popR_s hB.1
          have B6r : popR 6 B = B := by
            cases B with
            | nil => rfl
            | cons x B => exact popR_s hB.2
          by_cases q25 : c = 25
          · rw [if_pos (s25.mpr q25)]
            exact sign 5 3 3 (by rw [q25]; decide) (by rw [q25]; decide) ⟨v1, v2, v5, v6, v7⟩ (Or.inr (Or.inr (Or.inr ⟨Or.inl rfl, by decide, v3⟩))) (by decide) (by decide) (by decide) (by decide) B5r (by rw [q25]; decide)
          rw [if_neg (show ¬ I' 393 = 43 from fun y => q25 (s25.mp y))]
          by_cases q26 : c = 26
          · rw [if_pos (s26.mpr q26)]
            exact sign 5 4 3 (by rw [q26]; decide) (by rw [q26]; decide) ⟨v1, v2, v5, v6, v7⟩ (Or.inr (Or.inr (Or.inr ⟨Or.inr rfl, by decide, v3⟩))) (by decide) (by decide) (by decide) (by decide) B5r (by rw [q26]; decide)
          rw [if_neg (show ¬ I' 393 = 45 from fun y => q26 (s26.mp y))]
          simp only [if_neg (show ¬ I' 393 = 43 from fun y => q25 (s25.mp y)), if_neg (show ¬ I' 393 = 45 from fun y => q26 (s26.mp y))]
          by_cases q27 : c = 27
          · simp only [if_pos (s27.mpr q27)]
            exact sign 6 5 5 (by rw [q27]; decide) (by rw [q27]; decide) ⟨w1, w2, w5, w6, w7⟩ (Or.inr (Or.inr (Or.inl ⟨Or.inl rfl, rfl, w3⟩))) (by decide) (by decide) (by decide) (by decide) B6r (by rw [q27]; decide)
          simp only [if_neg (show ¬ I' 393 = 42 from fun y => q27 (s27.mp y))]
          have q28 : c = 28 := by
            rcases hg with y | y | y | y | ⟨y, _⟩
            · exact absurd y q25
            · exact absurd y q26
            · exact absurd y q27
            · exact y
            · exact absurd y q30
          exact sign 6 6 5 (by rw [q28]; decide) (by rw [q28]; decide) ⟨w1, w2, w5, w6, w7⟩ (Or.inr (Or.inr (Or.inl ⟨Or.inr rfl, rfl, w3⟩))) (by decide) (by decide) (by decide) (by decide) B6r (by rw [q28]; decide)
      · -- it ends
        have hg' : ¬ goC c (stl (r' 400) P.length) := by rw [c2]; exact hg
        rw [bn_n (goes_0 b3 c1 (by omega) hg'), if_pos (show (0 : Int32) = 0 from rfl)]
        obtain ⟨I6, r6, w', k1, k2, k3, k4, k5, k50⟩ := setM_v (J := J') (ri := r') (rj := mj) (rq := mq) (a := 3) c1 (by omega)
        rw [bv_n k1]
        try simp only [↓ap1_n]
        rw [c2] at k3 k50
        have lw : w' = (popM 3 P).length := by rw [← k3, stl_len]
        have no4 : ¬ (25 ≤ c.toInt ∧ c.toInt ≤ 28) := fun y => hg (by
          have d : c.toInt = 25 ∨ c.toInt = 26 ∨ c.toInt = 27 ∨ c.toInt = 28 := by omega
          rcases d with d | d | d | d
          · exact Or.inl (to_k (k := 25) d (by decide))
          · exact Or.inr (Or.inl (to_k (k := 26) d (by decide)))
          · exact Or.inr (Or.inr (Or.inl (to_k (k := 27) d (by decide))))
          · exact Or.inr (Or.inr (Or.inr (Or.inl (to_k (k := 28) d (by decide))))))
        have k0 : (0 : Int32).toInt = ((0 : Nat) : Int) := by decide
        by_cases hm40 : (40 : Int32) ∈ P
        · -- a ( is open
          obtain ⟨P2, p1, _⟩ := pop_1 (B := B) P 0 hO (Or.inr hno) hm40
          have lp : w' = P2.length + 1 := by rw [lw, p1]; rfl
          rw [if_neg (show ¬ I6 401 ≤ 0 from fun y => by have := (le_n k2 k0).mp y; omega)]
          have c30 : c ≠ 30 := fun y => hg (Or.inr (Or.inr (Or.inr (Or.inr ⟨y, hm40⟩))))
          obtain ⟨K, rk, e1, e2⟩ := rb_no (J := J) (ri := r) (rj := rj) (rq := rq) (I := I2) z5 (by rw [g1]; exact no4) (Or.inl ⟨by rw [x2]; have := mem.mp hm40; omega, by rw [g1]; exact c30⟩)
          rw [hD, bn_n e1]
          exact ⟨1, I6, J', r6, rfl, Or.inl ⟨by decide, s, by rw [k4 392 (by decide) (by decide)]; exact b2, FIN_f e2 g2 (by decide), (E ++ List.replicate q (-35)).map en ++ popF 3 P, by rw [k50, hbb, hF, fmL_app], by have lF := popF_len 3 P; rw [List.length_append, List.length_map, List.length_append, List.length_replicate]; omega⟩⟩
        · have z0 : cn40 P = 0 := by
            have h9 : ¬ 0 < cn40 P := fun y => hm40 (mem.mpr y)
            omega
          obtain ⟨p1, p2, p3, p4, p5⟩ := pop_none P 0 hO (Or.inr hno) z0
          rw [hbb, hF, p5, ← fmL_app, ← List.map_append, List.append_assoc] at k50
          have lp : w' = 0 := by rw [lw, p1]; rfl
          subst lp
          rw [if_pos ((le_n k2 k0).mpr (Nat.le_refl _))]
          obtain ⟨q1, q2⟩ := rep_all q
          obtain ⟨u1, u2⟩ := all_app q1 p3
          refine ⟨0, I6, J', r6, rfl, Or.inr ⟨rfl, p, c, v, s, e, N + 1, i, I, r, List.replicate q 35 ++ P.map mpc, rfl, ?_, ht, ⟨⟨by rw [k4 388 (by decide) (by decide)]; exact a1, by rw [k5 387 (by decide)]; exact a2⟩, ⟨by rw [k4 391 (by decide) (by decide)]; exact b1, by rw [k4 392 (by decide) (by decide)]; exact b2, TKF_fr b3 (k4 393 (by decide) (by decide)) (k4 394 (by decide) (by decide))⟩, ⟨k2, rfl⟩, by rw [k4 402 (by decide) (by decide), d1]; omega⟩, ⟨u1, ?_, ?_⟩, no4, ⟨hi0, hip⟩, hN0, ?_, E, hE, ?_, (k4 396 (by decide) (by decide)).trans hbb, ?_, ?_⟩⟩
          · rw [List.append_assoc, u2, q2, p4, Nat.add_zero]
            rw [z0] at hC
            rw [show ob + q = o + q by omega]
            exact hC
          · rw [List.length_append, List.length_replicate, List.length_map]
            have := okP_len P 0 (by decide) hO
            omega
          · rw [u2, q2, p4]
            omega
          · rw [k4 391 (by decide) (by decide), k4 393 (by decide) (by decide)]
            omega
          · rw [show (List.replicate q (35 : Int32) ++ P.map mpc).map (fun x => -x) = List.replicate q (-35) ++ (P.map mpc).map (fun x => -x) by rw [List.map_append, List.map_replicate]]
            exact k50
          · rw [List.length_append, List.length_replicate, List.length_map]
            omega
          · rw [show (List.replicate q (35 : Int32) ++ P.map mpc).map (fun x => -x) = List.replicate q (-35) ++ (P.map mpc).map (fun x => -x) by rw [List.map_append, List.map_replicate], ← List.append_assoc]
            exact eTr_2 hTr (eTr_all (P.map mpc) B (eAr_P P 0 hO) (n40_29 P z0))
end PR8
