/-! ===== pure: the tides of the reference once more: UNDER and the ROCKS of the month (behind pu19, pw) ===== -/
section PU20
variable {I : Nat → Int32} {J : Nat → Int64} {ri : Nat → Nat → Int32} {rj : Nat → Nat → Int64} {rq : Nat → Nat → Option Nat}
/-- what the tides write of one CELL: DRY v, UNDER u -/
def sea2 (c : Nat) (v u : Int32) (A B : Nat → Int32) : Prop := B (100 + 16 * c + 12) = v ∧ B (100 + 16 * c + 11) = u ∧ ∀ i, (∀ k, k ∈ [7, 9, 10, 11, 12, 13] → i ≠ 100 + 16 * c + k) → B i = A i
theorem sea2_0 {c : Nat} {v w u : Int32} {A : Nat → Int32} : sea2 c v u A (upd (upd (upd A (100 + 16 * c + 12) v) (100 + 16 * c + 13) w) (100 + 16 * c + 11) u) := ⟨by rw [upd_n _ _ (by omega), upd_n _ _ (by omega), upd_s], upd_s _ _ _, fun i h => by rw [upd_n _ _ (h 11 (by decide)), upd_n _ _ (h 13 (by decide)), upd_n _ _ (h 12 (by decide))]⟩
theorem sea2_k {c k : Nat} {v u w : Int32} {A B : Nat → Int32} (h : sea2 c v u A B) (hk : k ∈ [7, 9, 10]) : sea2 c v u A (upd B (100 + 16 * c + k) w) := by
  have h12 : k ≠ 12 ∧ k ≠ 11 := ⟨fun e => by subst e; exact absurd hk (by decide), fun e => by subst e; exact absurd hk (by decide)⟩
  have hm : k ∈ [7, 9, 10, 11, 12, 13] := by
    simp only [List.mem_cons, List.not_mem_nil, or_false] at hk ⊢
    omega
  exact ⟨(upd_n _ _ (by omega)).trans h.1, (upd_n _ _ (by omega)).trans h.2.1, fun i hi => (upd_n _ _ (hi k hm)).trans (h.2.2 i hi)⟩
/-- the bits of the ROCKS among the first n CELLS -/
def RBK (P : Nat → Prop) (n : Nat) (a b : Int32) : Prop := (∀ j, j < 20 → (b3 a j = true ↔ j < n ∧ P j)) ∧ ∀ j, j < 20 → (b3 b j = true ↔ 20 + j < n ∧ P (20 + j))
theorem rbk_0 {P : Nat → Prop} : RBK P 0 0 0 := ⟨fun j _ => by rw [b_0]; exact ⟨fun h => absurd h (by decide), fun h => absurd h.1 (Nat.not_lt_zero _)⟩, fun j _ => by rw [b_0]; exact ⟨fun h => absurd h (by decide), fun h => absurd h.1 (Nat.not_lt_zero _)⟩⟩
theorem rbk_n {P : Nat → Prop} {n : Nat} {a b : Int32} (h : RBK P n a b) (q : ¬ P n) : RBK P (n + 1) a b := ⟨fun j hj => (h.1 j hj).trans ⟨fun y => ⟨by omega, y.2⟩, fun y => ⟨by
  have : j ≠ n := fun e => q (e ▸ y.2)
  omega, y.2⟩⟩, fun j hj => (h.2 j hj).trans ⟨fun y => ⟨by omega, y.2⟩, fun y => ⟨by
  have : 20 + j ≠ n := fun e => q (e ▸ y.2)
  omega, y.2⟩⟩⟩
theorem or_b {a c : Int32} (h0 : 0 ≤ c.toInt) (h1 : c.toInt ≤ 31) (j : Nat) (hj : j < 20) : b3 (a ||| ((1 : Int32) <<< (c &&& 31))) j = true ↔ b3 a j = true ∨ j = c.toNatClampNeg := by
  rw [b_or, b3_one h0 h1 j (by omega), Bool.or_eq_true, decide_eq_true_iff]
theorem rbk_l {P : Nat → Prop} {x : Int32} {a b : Int32} (h : RBK P x.toNatClampNeg a b) (h0 : 0 ≤ x.toInt) (h1 : x.toInt < 20) (p : P x.toNatClampNeg) : RBK P (x.toNatClampNeg + 1) (a ||| ((1 : Int32) <<< (x &&& 31))) b := by
  have z := clampE x
  refine ⟨fun j hj => ?_, fun j hj => (h.2 j hj).trans ⟨fun y => ⟨by omega, y.2⟩, fun y => ⟨by omega, y.2⟩⟩⟩
  rw [or_b h0 (by omega) j hj, h.1 j hj]
  constructor
  · rintro (y | y)
    · exact ⟨by omega, y.2⟩
    · rw [y]; exact ⟨by omega, p⟩
  · intro y
    by_cases q : j = x.toNatClampNeg
    · exact Or.inr q
    · exact Or.inl ⟨by omega, y.2⟩
theorem rbk_h {P : Nat → Prop} {x : Int32} {a b : Int32} (h : RBK P x.toNatClampNeg a b) (h0 : 20 ≤ x.toInt) (h1 : x.toInt < 40) (p : P x.toNatClampNeg) : RBK P (x.toNatClampNeg + 1) a (b ||| ((1 : Int32) <<< ((x - 20) &&& 31))) := by
  have z := clampE x
  have e : (x - 20).toInt = x.toInt - 20 := i_sub rfl (show (20 : Int32).toInt = 20 by decide) (by omega) (by omega)
  have z2 := clampE (x - 20)
  refine ⟨fun j hj => (h.1 j hj).trans ⟨fun y => ⟨by omega, y.2⟩, fun y => ⟨by omega, y.2⟩⟩, fun j hj => ?_⟩
  rw [or_b (by omega) (by omega) j hj, h.2 j hj]
  constructor
  · rintro (y | y)
    · exact ⟨by omega, y.2⟩
    · rw [show 20 + j = x.toNatClampNeg by omega]; exact ⟨by omega, p⟩
  · intro y
    by_cases q : 20 + j = x.toNatClampNeg
    · exact Or.inr (by omega)
    · exact Or.inl ⟨by omega, y.2⟩
/-- what the tides leave -/
def SSR (I : Nat → Int32) (J : Nat → Int64) (ri : Nat → Nat → Int32) (rj : Nat → Nat → Int64) (rq : Nat → Nat → Option Nat) (m lv : Int32) (X : vM) : Prop := ∃ B : Nat → Int32, X = (I, J, va_up ri 384 B, rj, rq) ∧ ztq (ri 384) B ∧ (∀ c, c < (ri 384 2).toNatClampNeg → B (100 + 16 * c + 12) = (if topA (ri 384) c ≤ lv + ri 384 (20 + 5 * (tmod m).toNatClampNeg + 1) then 0 else 1) ∧ B (100 + 16 * c + 11) = (if topA (ri 384) c ≤ lv + ri 384 (20 + 5 * (tmod m).toNatClampNeg + 1) then ri 384 (100 + 16 * c + 11) + 1 else 0)) ∧ (∀ c, (ri 384 2).toNatClampNeg ≤ c → c < 40 → B (100 + 16 * c + 12) = ri 384 (100 + 16 * c + 12) ∧ B (100 + 16 * c + 11) = ri 384 (100 + 16 * c + 11)) ∧ (∀ c, c < 40 → (rkA B m.toNatClampNeg c = true ↔ c < (ri 384 2).toNatClampNeg ∧ ¬ topA (ri 384) c ≤ lv + ri 384 (20 + 5 * (tmod m).toNatClampNeg + 0))) ∧ ∀ i, 2520 ≤ i → i < 3720 → i ≠ 2520 + 2 * m.toNatClampNeg → i ≠ 2520 + 2 * m.toNatClampNeg + 1 → B i = ri 384 i
set_option maxHeartbeats 1000000 in
theorem seaStands_r {m lv : Int32} (hm0 : 0 ≤ m.toInt) (hm1 : m.toInt < 600) (h0 : 0 ≤ (ri 384 2).toInt) (h40 : (ri 384 2).toInt ≤ 40) : SSR I J ri rj rq m lv (g_X12_seaStands m lv I J ri rj rq) := by
  have zN := clampE (ri 384 2)
  have zm' := clampE m
  have tm := tmod_r hm0 (by omega)
  have ztq' := clampE (tmod m)
  have k20 : (20 : Int32).toInt = 20 := by decide
  generalize hHi : lv + ri 384 (20 + 5 * (tmod m).toNatClampNeg + 1) = Hi
  generalize hLo : lv + ri 384 (20 + 5 * (tmod m).toNatClampNeg + 0) = Lo
  have topZ : ∀ A : Nat → Int32, ztq (ri 384) A → ∀ c, c < 40 → topA A c = topA (ri 384) c := fun A hA c hc => by
    have p : ∀ k, k ∈ [1, 4, 5, 6] → A (100 + 16 * c + k) = ri 384 (100 + 16 * c + k) := fun k hk => hA _ (Or.inl (by simp only [List.mem_cons, List.not_mem_nil, or_false] at hk; omega)) (fun c2 k2 h2 h3 => by simp only [List.mem_cons, List.not_mem_nil, or_false] at hk h3; omega)
    unfold topA
    rw [p 1 (by decide), p 4 (by decide), p 5 (by decide), p 6 (by decide)]
  -- what stands behind x CELLS
  have go : ∀ (n : Nat) (a b x : Int32) (A : Nat → Int32), 0 ≤ x.toInt → x.toInt ≤ (ri 384 2).toInt → (40 - x.toInt).toNat < n → ztq (ri 384) A → (∀ c, c < x.toNatClampNeg → A (100 + 16 * c + 12) = (if topA (ri 384) c ≤ Hi then 0 else 1) ∧ A (100 + 16 * c + 11) = (if topA (ri 384) c ≤ Hi then ri 384 (100 + 16 * c + 11) + 1 else 0)) → (∀ c, x.toNatClampNeg ≤ c → c < 40 → A (100 + 16 * c + 12) = ri 384 (100 + 16 * c + 12) ∧ A (100 + 16 * c + 11) = ri 384 (100 + 16 * c + 11)) → (∀ i, 2520 ≤ i → i < 3720 → A i = ri 384 i) → RBK (fun c => ¬ topA (ri 384) c ≤ Lo) x.toNatClampNeg a b → SSR I J ri rj rq m lv (g_X12_seaStands_L8 m lv I J ri rj rq n a b x (va_up ri 384 A)) := by
    intro n
    induction n with
    | zero => intro a b x A _ _ h; exact absurd h (Nat.not_lt_zero _)
    | succ n ih =>
      intro a b x A h1 h2 h3 hA hv ho hr hb
      have zx := clampE x
      by_cases c : ri 384 2 ≤ x
      · have c1 := Int32.le_iff_toInt_le.mp c
        rw [g_X12_seaStands_L8_e]
        simp only [↓ap1_n, bnI_u]
        rw [if_pos c]
        have w1 : ((2520 : Int32) + (2 : Int32) * m).toNatClampNeg = 2520 + 2 * m.toNatClampNeg ∧ ((2520 : Int32) + (2 : Int32) * m + 1).toNatClampNeg = 2520 + 2 * m.toNatClampNeg + 1 := by
          have e0 : ((2520 : Int32) + (2 : Int32) * m).toInt = 2520 + 2 * m.toInt := i_add (show (2520 : Int32).toInt = 2520 by decide) (i_mul (y := m) (show (2 : Int32).toInt = 2 by decide) rfl (by omega) (by omega)) (by omega) (by omega)
          have e1 := t1_one (x := (2520 : Int32) + (2 : Int32) * m) (by omega) (by omega)
          have y0 := clampE ((2520 : Int32) + (2 : Int32) * m)
          have y1 := clampE ((2520 : Int32) + (2 : Int32) * m + 1)
          exact ⟨by omega, by omega⟩
        have ex : x.toNatClampNeg = (ri 384 2).toNatClampNeg := by omega
        rw [w1.1, w1.2, va_up_self, up_up, va_up_self, up_up]
        rw [ex] at hv ho hb
        unfold SSR
        rw [hHi, hLo]
        refine ⟨_, rfl, zt_tr hA (zt_tr (zt_r (by omega) (by omega)) (zt_r (by omega) (by omega))), fun c hc => ?_, fun c hc h4 => ?_, fun c hc => ?_, fun i i1 i2 i3 i4 => ?_⟩
        · rw [upd_n _ _ (by omega), upd_n _ _ (by omega), upd_n _ _ (by omega), upd_n _ _ (by omega)]
          exact hv c (by omega)
        · rw [upd_n _ _ (by omega), upd_n _ _ (by omega), upd_n _ _ (by omega), upd_n _ _ (by omega)]
          exact ho c hc h4
        · unfold rkA
          by_cases q : c < 20
          · rw [if_pos q, upd_n _ _ (by omega), upd_s]
            exact hb.1 c q
          · rw [if_neg q, upd_s, hb.2 (c - 20) (by omega), show 20 + (c - 20) = c by omega]
        · rw [upd_n _ _ i4, upd_n _ _ i3]
          exact hr i i1 i2
      · have c1 := Int32.lt_iff_toInt_lt.mp (Int32.not_le.mp c)
        have e := t1_inc (x := x) (by omega) (by omega)
        have z3 := clampE (x + Int32.ofInt 1)
        have hx1 : (x + Int32.ofInt 1).toNatClampNeg = x.toNatClampNeg + 1 := by omega
        have i7 := ixk (c := x) (k := 7) 7 (by decide) (by decide) h1 (by omega)
        have i8 := ixk (c := x) (k := 8) 8 (by decide) (by decide) h1 (by omega)
        have i9 := ixk (c := x) (k := 9) 9 (by decide) (by decide) h1 (by omega)
        have i10 := ixk (c := x) (k := 10) 10 (by decide) (by decide) h1 (by omega)
        have i11 := ixk (c := x) (k := 11) 11 (by decide) (by decide) h1 (by omega)
        have i12 := ixk (c := x) (k := 12) 12 (by decide) (by decide) h1 (by omega)
        have i13 := ixk (c := x) (k := 13) 13 (by decide) (by decide) h1 (by omega)
        have a11 : A (100 + 16 * x.toNatClampNeg + 11) = ri 384 (100 + 16 * x.toNatClampNeg + 11) := (ho _ (Nat.le_refl _) (by omega)).2
        have tA : ∀ k, k ≤ 4 → A (20 + 5 * (tmod m).toNatClampNeg + k) = ri 384 (20 + 5 * (tmod m).toNatClampNeg + k) := fun k hk => hA _ (Or.inl (by omega)) (fun c2 k2 h2 h3 => by omega)
        have tp : A (100 + 16 * x.toNatClampNeg + 1) + A (100 + 16 * x.toNatClampNeg + 4) + A (100 + 16 * x.toNatClampNeg + 5) / 4 + A (100 + 16 * x.toNatClampNeg + 6) = topA (ri 384) x.toNatClampNeg := topZ A hA _ (by omega)
        -- the next turn
        have fin : ∀ (v u : Int32) (B : Nat → Int32) (a b : Int32), v = (if topA (ri 384) x.toNatClampNeg ≤ Hi then 0 else 1) → u = (if topA (ri 384) x.toNatClampNeg ≤ Hi then ri 384 (100 + 16 * x.toNatClampNeg + 11) + 1 else 0) → sea2 x.toNatClampNeg v u A B → RBK (fun c => ¬ topA (ri 384) c ≤ Lo) (x.toNatClampNeg + 1) a b → SSR I J ri rj rq m lv (g_X12_seaStands_L8 m lv I J ri rj rq n a b (x + Int32.ofInt 1) (va_up ri 384 B)) := fun v u B a b hvv huu hs hab => by
          have zs : ztq (ri 384) B := zt_tr hA (fun i _ y => hs.2.2 i (fun k hk => y _ k (by omega) hk))
          refine ih _ _ _ _ (by omega) (by omega) (by omega) zs (fun c hc => ?_) (fun c hc h4 => ?_) (fun i i1 i2 => ?_) (by rw [hx1]; exact hab)
          · by_cases q : c = x.toNatClampNeg
            · subst q; rw [hs.1, hs.2.1]; exact ⟨hvv, huu⟩
            · rw [hs.2.2 _ (fun k hk => by simp only [List.mem_cons, List.not_mem_nil, or_false] at hk; omega), hs.2.2 _ (fun k hk => by simp only [List.mem_cons, List.not_mem_nil, or_false] at hk; omega)]
              exact hv c (by omega)
          · rw [hs.2.2 _ (fun k hk => by simp only [List.mem_cons, List.not_mem_nil, or_false] at hk; omega), hs.2.2 _ (fun k hk => by simp only [List.mem_cons, List.not_mem_nil, or_false] at hk; omega)]
            exact ho c (by omega) h4
          · rw [hs.2.2 i (fun k hk => by simp only [List.mem_cons, List.not_mem_nil, or_false] at hk; omega)]
            exact hr i i1 i2
        clear ih
        rw [g_X12_seaStands_L8_e]
        simp only [↓ap1_n, bnI_u, topOf_m h1 (show x.toInt ≤ 39 by omega), tableAt_m1 hm0 (show m.toInt ≤ 2147483647 by omega), va_up_self, tp, tA 1 (by decide), hHi]
        rw [if_neg c]
        by_cases d : topA (ri 384) x.toNatClampNeg ≤ Hi
        · have fin0 : ∀ (B : Nat → Int32) (a b : Int32), sea2 x.toNatClampNeg 0 (ri 384 (100 + 16 * x.toNatClampNeg + 11) + 1) A B → RBK (fun c => ¬ topA (ri 384) c ≤ Lo) (x.toNatClampNeg + 1) a b → SSR I J ri rj rq m lv (g_X12_seaStands_L8 m lv I J ri rj rq n a b (x + Int32.ofInt 1) (va_up ri 384 B)) := fun B a b => fin 0 _ B a b (if_pos d).symm (if_pos d).symm
          rw [if_pos d, g_X12_seaStands_K51_e]
          simp only [↓ap1_n, bnI_u, topOf_m h1 (show x.toInt ≤ 39 by omega), tableAt_m0 hm0 (show m.toInt ≤ 2147483647 by omega), va_up_self, tp, tA 0 (by decide), hLo]
          by_cases r : topA (ri 384) x.toNatClampNeg ≤ Lo
          · have hab := rbk_n hb (fun y => y r)
            rw [if_pos r]
            have kA : ∀ (B : Nat → Int32), sea2 x.toNatClampNeg 0 (ri 384 (100 + 16 * x.toNatClampNeg + 11) + 1) A B → SSR I J ri rj rq m lv (g_X12_seaStands_K360 a b x (g_X12_seaStands_L8 m lv I J ri rj rq n) (va_up ri 384 B)) := fun B h => by
              rw [g_X12_seaStands_K360_e]
              simp only [↓ap1_n]
              exact fin0 B a b h hab
            have kC : ∀ (B : Nat → Int32), sea2 x.toNatClampNeg 0 (ri 384 (100 + 16 * x.toNatClampNeg + 11) + 1) A B → SSR I J ri rj rq m lv (g_X12_seaStands_K207 a b x (g_X12_seaStands_L8 m lv I J ri rj rq n) ((100 : Int32) + (16 : Int32) * x) (va_up ri 384 B)) := fun B h => by
              rw [g_X12_seaStands_K207_e]
              simp only [↓ap1_n, g_X12_seaStands_K359, va_up_self, up_up, i8, i10]
              split
              · exact kA _ h
              · split
                · exact kA _ (sea2_k h (by decide))
                · exact kA _ (sea2_k h (by decide))
            simp only [g_X12_seaStands_K75, g_X12_seaStands_K96, g_X12_seaStands_K116, g_X12_seaStands_K147, g_X12_seaStands_K167, g_X12_seaStands_K191, ↓ap1_n, i7, i11, i12, i13, va_up_self, up_up]
            refine kC _ (sea2_k ?_ (by decide))
            rw [upd_n _ _ (show 100 + 16 * x.toNatClampNeg + 11 ≠ 100 + 16 * x.toNatClampNeg + 13 by omega), upd_n _ _ (show 100 + 16 * x.toNatClampNeg + 11 ≠ 100 + 16 * x.toNatClampNeg + 12 by omega), a11]
            exact sea2_0
          · rw [if_neg r]
            have kA : ∀ (a b : Int32) (B : Nat → Int32), RBK (fun c => ¬ topA (ri 384) c ≤ Lo) (x.toNatClampNeg + 1) a b → sea2 x.toNatClampNeg 0 (ri 384 (100 + 16 * x.toNatClampNeg + 11) + 1) A B → SSR I J ri rj rq m lv (g_X12_seaStands_K360_2 x (g_X12_seaStands_L8 m lv I J ri rj rq n) a b (va_up ri 384 B)) := fun a b B hab h => by
              rw [g_X12_seaStands_K360_2_e]
              simp only [↓ap1_n]
              exact fin0 B a b h hab
            have kC : ∀ (a b : Int32) (B : Nat → Int32), RBK (fun c => ¬ topA (ri 384) c ≤ Lo) (x.toNatClampNeg + 1) a b → sea2 x.toNatClampNeg 0 (ri 384 (100 + 16 * x.toNatClampNeg + 11) + 1) A B → SSR I J ri rj rq m lv (g_X12_seaStands_K191_2 x (g_X12_seaStands_L8 m lv I J ri rj rq n) ((100 : Int32) + (16 : Int32) * x) (va_up ri 384 B) a b) := fun a b B hab h => by
              rw [g_X12_seaStands_K191_2_e]
              simp only [↓ap1_n, g_X12_seaStands_K207_2, g_X12_seaStands_K359_2, va_up_self, up_up, i7, i8, i10]
              split
              · exact kA _ _ _ hab (sea2_k h (by decide))
              · split
                · exact kA _ _ _ hab (sea2_k (sea2_k h (by decide)) (by decide))
                · exact kA _ _ _ hab (sea2_k (sea2_k h (by decide)) (by decide))
            simp only [g_X12_seaStands_K75_2, g_X12_seaStands_K96_2, g_X12_seaStands_K116_2, g_X12_seaStands_K147_2, ↓ap1_n, i11, i12, i13, va_up_self, up_up]
            rw [upd_n _ _ (show 100 + 16 * x.toNatClampNeg + 11 ≠ 100 + 16 * x.toNatClampNeg + 13 by omega), upd_n _ _ (show 100 + 16 * x.toNatClampNeg + 11 ≠ 100 + 16 * x.toNatClampNeg + 12 by omega), a11]
            by_cases q : (20 : Int32) ≤ x
            · have q1 := Int32.le_iff_toInt_le.mp q
              rw [if_pos q, g_X12_seaStands_K167_2_e]
              simp only [↓ap1_n]
              rw [if_neg (fun y => by have := Int32.lt_iff_toInt_lt.mp y; omega)]
              exact kC _ _ _ (rbk_h hb (by omega) (by omega) r) sea2_0
            · have q1 : x.toInt < 20 := by
                have : ¬ (20 : Int32).toInt ≤ x.toInt := fun y => q (Int32.le_iff_toInt_le.mpr y)
                omega
              rw [if_neg q, g_X12_seaStands_K167_2_e]
              simp only [↓ap1_n]
              rw [if_pos (Int32.lt_iff_toInt_lt.mpr (by omega))]
              exact kC _ _ _ (rbk_l hb h1 q1 r) sea2_0
        · have fin1 : ∀ (B : Nat → Int32) (a b : Int32), sea2 x.toNatClampNeg 1 0 A B → RBK (fun c => ¬ topA (ri 384) c ≤ Lo) (x.toNatClampNeg + 1) a b → SSR I J ri rj rq m lv (g_X12_seaStands_L8 m lv I J ri rj rq n a b (x + Int32.ofInt 1) (va_up ri 384 B)) := fun B a b => fin 1 0 B a b (if_neg d).symm (if_neg d).symm
          rw [if_neg d, g_X12_seaStands_K51_2_e]
          simp only [↓ap1_n, bnI_u, topOf_m h1 (show x.toInt ≤ 39 by omega), tableAt_m0 hm0 (show m.toInt ≤ 2147483647 by omega), va_up_self, tp, tA 0 (by decide), hLo]
          by_cases r : topA (ri 384) x.toNatClampNeg ≤ Lo
          · have hab := rbk_n hb (fun y => y r)
            rw [if_pos r]
            have kA3 : ∀ (B : Nat → Int32), sea2 x.toNatClampNeg 1 0 A B → SSR I J ri rj rq m lv (g_X12_seaStands_K360_3 a b x (g_X12_seaStands_L8 m lv I J ri rj rq n) (va_up ri 384 B)) := fun B h => by
              rw [g_X12_seaStands_K360_3_e]
              simp only [↓ap1_n]
              exact fin1 B a b h hab
            have kB3 : ∀ (B : Nat → Int32), sea2 x.toNatClampNeg 1 0 A B → SSR I J ri rj rq m lv (g_X12_seaStands_K287 a b x (g_X12_seaStands_L8 m lv I J ri rj rq n) ((100 : Int32) + (16 : Int32) * x) (va_up ri 384 B)) := fun B h => by
              rw [g_X12_seaStands_K287_e]
              simp only [↓ap1_n, va_up_self, up_up, i10]
              split
              · exact kA3 _ h
              · exact kA3 _ (sea2_k h (by decide))
            have kC3 : ∀ (B : Nat → Int32), sea2 x.toNatClampNeg 1 0 A B → SSR I J ri rj rq m lv (g_X12_seaStands_K207_3 m I J rj rq a b x (g_X12_seaStands_L8 m lv I J ri rj rq n) ((100 : Int32) + (16 : Int32) * x) (va_up ri 384 B)) := fun B h => by
              rw [g_X12_seaStands_K207_3_e]
              simp only [↓ap1_n, bnI_u, tableAt_m4, va_up_self, up_up, i8, i9]
              split
              · exact kA3 _ h
              · split
                · exact kB3 _ (sea2_k h (by decide))
                · exact kB3 _ (sea2_k (sea2_k h (by decide)) (by decide))
            simp only [g_X12_seaStands_K75_3, g_X12_seaStands_K96_3, g_X12_seaStands_K116_3, g_X12_seaStands_K147_3, g_X12_seaStands_K167_3, g_X12_seaStands_K191_3, ↓ap1_n, i11, i12, i13, va_up_self, up_up]
            exact kC3 _ sea2_0
          · rw [if_neg r]
            have kA4 : ∀ (B : Nat → Int32) (a b : Int32), RBK (fun c => ¬ topA (ri 384) c ≤ Lo) (x.toNatClampNeg + 1) a b → sea2 x.toNatClampNeg 1 0 A B → SSR I J ri rj rq m lv (g_X12_seaStands_K360_4 x (g_X12_seaStands_L8 m lv I J ri rj rq n) a b (va_up ri 384 B)) := fun B a b hab h => by
              rw [g_X12_seaStands_K360_4_e]
              simp only [↓ap1_n]
              exact fin1 B a b h hab
            have kB4 : ∀ (B : Nat → Int32) (a b : Int32), RBK (fun c => ¬ topA (ri 384) c ≤ Lo) (x.toNatClampNeg + 1) a b → sea2 x.toNatClampNeg 1 0 A B → SSR I J ri rj rq m lv (g_X12_seaStands_K287_2 x (g_X12_seaStands_L8 m lv I J ri rj rq n) ((100 : Int32) + (16 : Int32) * x) a b (va_up ri 384 B)) := fun B a b hab h => by
              rw [g_X12_seaStands_K287_2_e]
              simp only [↓ap1_n, va_up_self, up_up, i10]
              split
              · exact kA4 _ _ _ hab h
              · exact kA4 _ _ _ hab (sea2_k h (by decide))
            have kC4 : ∀ (B : Nat → Int32) (a b : Int32), RBK (fun c => ¬ topA (ri 384) c ≤ Lo) (x.toNatClampNeg + 1) a b → sea2 x.toNatClampNeg 1 0 A B → SSR I J ri rj rq m lv (g_X12_seaStands_K207_4 m I J rj rq x (g_X12_seaStands_L8 m lv I J ri rj rq n) ((100 : Int32) + (16 : Int32) * x) (va_up ri 384 B) a b) := fun B a b hab h => by
              rw [g_X12_seaStands_K207_4_e]
              simp only [↓ap1_n, bnI_u, tableAt_m4, va_up_self, up_up, i8, i9]
              split
              · exact kA4 _ _ _ hab h
              · split
                · exact kB4 _ _ _ hab (sea2_k h (by decide))
                · exact kB4 _ _ _ hab (sea2_k (sea2_k h (by decide)) (by decide))
            simp only [g_X12_seaStands_K75_4, g_X12_seaStands_K96_4, g_X12_seaStands_K116_4, g_X12_seaStands_K147_4, ↓ap1_n, i11, i12, i13, va_up_self, up_up]
            by_cases q : (20 : Int32) ≤ x
            · have q1 := Int32.le_iff_toInt_le.mp q
              rw [if_pos q, g_X12_seaStands_K167_4_e]
              simp only [↓ap1_n, g_X12_seaStands_K191_4]
              rw [if_neg (fun y => by have := Int32.lt_iff_toInt_lt.mp y; omega)]
              exact kC4 _ _ _ (rbk_h hb (by omega) (by omega) r) sea2_0
            · have q1 : x.toInt < 20 := by
                have : ¬ (20 : Int32).toInt ≤ x.toInt := fun y => q (Int32.le_iff_toInt_le.mpr y)
                omega
              rw [if_neg q, g_X12_seaStands_K167_4_e]
              simp only [↓ap1_n, g_X12_seaStands_K191_4]
              rw [if_pos (Int32.lt_iff_toInt_lt.mpr (by omega))]
              exact kC4 _ _ _ (rbk_l hb h1 q1 r) sea2_0
  rw [g_X12_seaStands_e]
  have n0 : (0 : Int32).toNatClampNeg = 0 := by decide
  have h := go ((40 - (0 : Int32).toInt).toNat + 1) 0 0 0 (ri 384) (by decide) h0 (Nat.lt_succ_self _) zt_rf (fun c hc => absurd hc (by rw [n0]; exact Nat.not_lt_zero _)) (fun _ _ _ => ⟨rfl, rfl⟩) (fun _ _ _ => rfl) (by rw [n0]; exact rbk_0)
  rw [up_id] at h
  exact h
end PU20
