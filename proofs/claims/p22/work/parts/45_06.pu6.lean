/-! ===== pure: the tides of the reference ===== -/
section PU6
variable {I : Nat → Int32} {J : Nat → Int64} {ri : Nat → Nat → Int32} {rj : Nat → Nat → Int64} {rq : Nat → Nat → Option Nat}
/-- what the tides write of one CELL -/
def sea1 (c : Nat) (v : Int32) (A B : Nat → Int32) : Prop := B (100 + 16 * c + 12) = v ∧ ∀ i, (∀ k, k ∈ [7, 9, 10, 11, 12, 13] → i ≠ 100 + 16 * c + k) → B i = A i
theorem sea1_0 {c : Nat} {v : Int32} {A : Nat → Int32} : sea1 c v A (upd A (100 + 16 * c + 12) v) := ⟨upd_s _ _ _, fun i h => upd_n _ _ (h 12 (by decide))⟩
theorem sea1_k {c k : Nat} {v w : Int32} {A B : Nat → Int32} (h : sea1 c v A B) (hk : k ∈ [7, 9, 10, 11, 13]) : sea1 c v A (upd B (100 + 16 * c + k) w) := by
  have h12 : k ≠ 12 := fun e => by subst e; exact absurd hk (by decide)
  have hm : k ∈ [7, 9, 10, 11, 12, 13] := by
    simp only [List.mem_cons, List.not_mem_nil, or_false] at hk ⊢
    omega
  exact ⟨(upd_n _ _ (by omega)).trans h.1, fun i hi => (upd_n _ _ (hi k hm)).trans (h.2 i hi)⟩
theorem topOf_m {x : Int32} (h0 : 0 ≤ x.toInt) (h1 : x.toInt ≤ 39) : g_X12_topOf x I J ri rj rq = (ri 384 (100 + 16 * x.toNatClampNeg + 1) + ri 384 (100 + 16 * x.toNatClampNeg + 4) + ri 384 (100 + 16 * x.toNatClampNeg + 5) / 4 + ri 384 (100 + 16 * x.toNatClampNeg + 6), I, J, ri, rj, rq) := by
  rw [← ixk (c := x) (k := 1) 1 (by decide) (by decide) h0 h1, ← ixk (c := x) (k := 4) 4 (by decide) (by decide) h0 h1, ← ixk (c := x) (k := 5) 5 (by decide) (by decide) h0 h1, ← ixk (c := x) (k := 6) 6 (by decide) (by decide) h0 h1]
  rfl
theorem tableAt_m0 {m : Int32} (h0 : 0 ≤ m.toInt) (h1 : m.toInt ≤ 2147483647) : g_X12_tableAt_c0 m I J ri rj rq = (ri 384 (20 + 5 * (tmod m).toNatClampNeg + 0), I, J, ri, rj, rq) := by
  have tm := tmod_r h0 h1
  rw [← ixt (x := tmod m) (k := 0) 0 (by decide) (by decide) tm.1 tm.2]
  rfl
theorem tableAt_m1 {m : Int32} (h0 : 0 ≤ m.toInt) (h1 : m.toInt ≤ 2147483647) : g_X12_tableAt_c1 m I J ri rj rq = (ri 384 (20 + 5 * (tmod m).toNatClampNeg + 1), I, J, ri, rj, rq) := by
  have tm := tmod_r h0 h1
  rw [← ixt (x := tmod m) (k := 1) 1 (by decide) (by decide) tm.1 tm.2]
  rfl
theorem tableAt_m4 {m : Int32} : g_X12_tableAt_c4 m I J ri rj rq = (ri 384 ((20 : Int32) + (5 : Int32) * tmod m + 4).toNatClampNeg, I, J, ri, rj, rq) := rfl
/-- the TOP of a CELL of the reference's row -/
def topA (A : Nat → Int32) (c : Nat) : Int32 := A (100 + 16 * c + 1) + A (100 + 16 * c + 4) + A (100 + 16 * c + 5) / 4 + A (100 + 16 * c + 6)
/-- all but what the tides write -/
def ztq (f g : Nat → Int32) : Prop := ∀ i, (i < 2520 ∨ 3720 ≤ i) → (∀ c k, c < 40 → k ∈ [7, 9, 10, 11, 12, 13] → i ≠ 100 + 16 * c + k) → g i = f i
theorem zt_rf {f : Nat → Int32} : ztq f f := fun _ _ _ => rfl
theorem zt_tr {f g h : Nat → Int32} (a : ztq f g) (b : ztq g h) : ztq f h := fun i x y => (b i x y).trans (a i x y)
theorem zt_1 {f g : Nat → Int32} {c : Nat} {v : Int32} (h : sea1 c v f g) (hc : c < 40) : ztq f g := fun i _ y => h.2 i (fun k hk => y c k hc hk)
theorem zt_r {f : Nat → Int32} {k : Nat} {v : Int32} (h0 : 2520 ≤ k) (h1 : k < 3720) : ztq f (upd f k v) := fun i x _ => upd_n _ _ (by omega)
/-- how the turns behind one CELL end -/
def SSC (I : Nat → Int32) (J : Nat → Int64) (ri : Nat → Nat → Int32) (rj : Nat → Nat → Int64) (rq : Nat → Nat → Option Nat) (m lv : Int32) (X : vM) : Prop := ∃ B : Nat → Int32, X = (I, J, va_up ri 384 B, rj, rq) ∧ ztq (ri 384) B ∧ ∀ c, c < (ri 384 2).toNatClampNeg → B (100 + 16 * c + 12) = if topA (ri 384) c ≤ lv + ri 384 (20 + 5 * (tmod m).toNatClampNeg + 1) then 0 else 1
theorem seaStands_v {m lv : Int32} (hm0 : 0 ≤ m.toInt) (hm1 : m.toInt < 600) (h0 : 0 ≤ (ri 384 2).toInt) (h40 : (ri 384 2).toInt ≤ 40) : ∃ B : Nat → Int32, g_X12_seaStands m lv I J ri rj rq = (I, J, va_up ri 384 B, rj, rq) ∧ ztq (ri 384) B ∧ ∀ c, c < (ri 384 2).toNatClampNeg → B (100 + 16 * c + 12) = if topA (ri 384) c ≤ lv + ri 384 (20 + 5 * (tmod m).toNatClampNeg + 1) then 0 else 1 := by
  have zN := clampE (ri 384 2)
  have tm := tmod_r hm0 (by omega)
  have ztq' := clampE (tmod m)
  have topZ : ∀ A : Nat → Int32, ztq (ri 384) A → ∀ c, c < 40 → topA A c = topA (ri 384) c := fun A hA c hc => by
    have p : ∀ k, k ∈ [1, 4, 5, 6] → A (100 + 16 * c + k) = ri 384 (100 + 16 * c + k) := fun k hk => hA _ (Or.inl (by simp only [List.mem_cons, List.not_mem_nil, or_false] at hk; omega)) (fun c2 k2 h2 h3 => by simp only [List.mem_cons, List.not_mem_nil, or_false] at hk h3; omega)
    unfold topA
    rw [p 1 (by decide), p 4 (by decide), p 5 (by decide), p 6 (by decide)]
  have go : ∀ (n : Nat) (a b x : Int32) (A : Nat → Int32), 0 ≤ x.toInt → x.toInt ≤ (ri 384 2).toInt → (40 - x.toInt).toNat < n → ztq (ri 384) A → (∀ c, c < x.toNatClampNeg → A (100 + 16 * c + 12) = if topA (ri 384) c ≤ lv + ri 384 (20 + 5 * (tmod m).toNatClampNeg + 1) then 0 else 1) → ∃ B : Nat → Int32, g_X12_seaStands_L8 m lv I J ri rj rq n a b x (va_up ri 384 A) = (I, J, va_up ri 384 B, rj, rq) ∧ ztq (ri 384) B ∧ ∀ c, c < (ri 384 2).toNatClampNeg → B (100 + 16 * c + 12) = if topA (ri 384) c ≤ lv + ri 384 (20 + 5 * (tmod m).toNatClampNeg + 1) then 0 else 1 := by
    intro n
    induction n with
    | zero => intro a b x A _ _ h; exact absurd h (Nat.not_lt_zero _)
    | succ n ih =>
      intro a b x A h1 h2 h3 hA hv
      have zx := clampE x
      by_cases c : ri 384 2 ≤ x
      · have c1 := Int32.le_iff_toInt_le.mp c
        rw [g_X12_seaStands_L8_e]
        simp only [↓ap1_n, bnI_u]
        rw [if_pos c]
        have w1 : ((2520 : Int32) + (2 : Int32) * m).toNatClampNeg = 2520 + 2 * m.toNatClampNeg ∧ ((2520 : Int32) + (2 : Int32) * m + 1).toNatClampNeg = 2520 + 2 * m.toNatClampNeg + 1 := by
          have e0 : ((2520 : Int32) + (2 : Int32) * m).toInt = 2520 + 2 * m.toInt := i_add (show (2520 : Int32).toInt = 2520 by decide) (i_mul (y := m) (show (2 : Int32).toInt = 2 by decide) rfl (by omega) (by omega)) (by omega) (by omega)
          have e1 := t1_one (x := (2520 : Int32) + (2 : Int32) * m) (by omega) (by omega)
          have y0 := clampE ((2520 : Int32) + (2 : Int32) * m)
          have y1 := clampE ((2520 : Int32) + (2 : Int32) * m + 1)
          have y2 := clampE m
          exact ⟨by omega, by omega⟩
        have y2 := clampE m
        rw [w1.1, w1.2, va_up_self, up_up, va_up_self, up_up]
        refine ⟨_, rfl, zt_tr hA (zt_tr (zt_r (by omega) (by omega)) (zt_r (by omega) (by omega))), fun c hc => ?_⟩
        rw [upd_n _ _ (by omega), upd_n _ _ (by omega)]
        exact hv c (by omega)
      · have c1 := Int32.lt_iff_toInt_lt.mp (Int32.not_le.mp c)
        have e := t1_inc (x := x) (by omega) (by omega)
        have z3 := clampE (x + Int32.ofInt 1)
        have hx1 : (x + Int32.ofInt 1).toNatClampNeg = x.toNatClampNeg + 1 := by omega
        have i7 := ixk (c := x) (k := 7) 7 (by decide) (by decide) h1 (by omega)
        have i8 := ixk (c := x) (k := 8) 8 (by decide) (by decide) h1 (by omega)
        have i9 := ixk (c := x) (k := 9) 9 (by decide) (by decide) h1 (by omega)
        have i10 := ixk (c := x) (k := 10) 10 (by decide) (by decide) h1 (by omega)
        have i11 := ixk (c := x) (k := 11) 11 (by decide) (by decide) h1 (by omega)
        have i12 := ixk (c := x) (k := 12) 12 (by decide) (by decide) h1 (by omega)
        have i13 := ixk (c := x) (k := 13) 13 (by decide) (by decide) h1 (by omega)
        -- the next turn, whatever else was written of this CELL
        have fin : ∀ (v : Int32) (B : Nat → Int32) (a b : Int32), v = (if topA (ri 384) x.toNatClampNeg ≤ lv + ri 384 (20 + 5 * (tmod m).toNatClampNeg + 1) then 0 else 1) → sea1 x.toNatClampNeg v A B → ∃ B2 : Nat → Int32, g_X12_seaStands_L8 m lv I J ri rj rq n a b (x + Int32.ofInt 1) (va_up ri 384 B) = (I, J, va_up ri 384 B2, rj, rq) ∧ ztq (ri 384) B2 ∧ ∀ c, c < (ri 384 2).toNatClampNeg → B2 (100 + 16 * c + 12) = if topA (ri 384) c ≤ lv + ri 384 (20 + 5 * (tmod m).toNatClampNeg + 1) then 0 else 1 := fun v B a b hvv hs => by
          refine ih _ _ _ _ (by omega) (by omega) (by omega) (zt_tr hA (zt_1 hs (by omega))) (fun c hc => ?_)
          by_cases q : c = x.toNatClampNeg
          · subst q; rw [hs.1]; exact hvv
          · rw [hs.2 _ (fun k hk => by simp only [List.mem_cons, List.not_mem_nil, or_false] at hk; omega)]
            exact hv c (by omega)
        have tA : ∀ k, k ≤ 4 → A (20 + 5 * (tmod m).toNatClampNeg + k) = ri 384 (20 + 5 * (tmod m).toNatClampNeg + k) := fun k hk => hA _ (Or.inl (by omega)) (fun c2 k2 h2 h3 => by omega)
        have tp : A (100 + 16 * x.toNatClampNeg + 1) + A (100 + 16 * x.toNatClampNeg + 4) + A (100 + 16 * x.toNatClampNeg + 5) / 4 + A (100 + 16 * x.toNatClampNeg + 6) = topA (ri 384) x.toNatClampNeg := topZ A hA _ (by omega)
        rw [g_X12_seaStands_L8_e]
        simp only [↓ap1_n, bnI_u, topOf_m h1 (show x.toInt ≤ 39 by omega), tableAt_m1 hm0 (show m.toInt ≤ 2147483647 by omega), va_up_self, tp, tA 1 (by decide)]
        rw [if_neg c]
        by_cases d : topA (ri 384) x.toNatClampNeg ≤ lv + ri 384 (20 + 5 * (tmod m).toNatClampNeg + 1)
        · have fin0 := fun (B : Nat → Int32) (a b : Int32) => fin 0 B a b (if_pos d).symm
          rw [if_pos d]
          simp only [g_X12_seaStands_K51, g_X12_seaStands_K75, g_X12_seaStands_K96, g_X12_seaStands_K116, g_X12_seaStands_K147, g_X12_seaStands_K167, g_X12_seaStands_K191, g_X12_seaStands_K207, g_X12_seaStands_K359, g_X12_seaStands_K360, g_X12_seaStands_K75_2, g_X12_seaStands_K96_2, g_X12_seaStands_K116_2, g_X12_seaStands_K147_2, g_X12_seaStands_K167_2, g_X12_seaStands_K191_2, g_X12_seaStands_K207_2, g_X12_seaStands_K359_2, g_X12_seaStands_K360_2, ↓ap1_n, bnI_u, i7, i8, i10, i11, i12, i13, va_up_self, up_up]
          repeat' split
          all_goals (refine fin0 _ _ _ ?_; repeat (first | exact sea1_0 | refine sea1_k ?_ (by decide)))
        · have fin1 : ∀ (B : Nat → Int32) (a b : Int32), sea1 x.toNatClampNeg 1 A B → SSC I J ri rj rq m lv (g_X12_seaStands_L8 m lv I J ri rj rq n a b (x + Int32.ofInt 1) (va_up ri 384 B)) := fun B a b => fin 1 B a b (if_neg d).symm
          have kA3 : ∀ (B : Nat → Int32) (a b : Int32), sea1 x.toNatClampNeg 1 A B → SSC I J ri rj rq m lv (g_X12_seaStands_K360_3 a b x (g_X12_seaStands_L8 m lv I J ri rj rq n) (va_up ri 384 B)) := fun B a b h => by
            rw [g_X12_seaStands_K360_3_e]
            simp only [↓ap1_n]
            exact fin1 B a b h
          have kB3 : ∀ (B : Nat → Int32) (a b : Int32), sea1 x.toNatClampNeg 1 A B → SSC I J ri rj rq m lv (g_X12_seaStands_K287 a b x (g_X12_seaStands_L8 m lv I J ri rj rq n) ((100 : Int32) + (16 : Int32) * x) (va_up ri 384 B)) := fun B a b h => by
            rw [g_X12_seaStands_K287_e]
            simp only [↓ap1_n, va_up_self, up_up, i10]
            split
            · exact kA3 _ _ _ h
            · exact kA3 _ _ _ (sea1_k h (by decide))
          have kC3 : ∀ (B : Nat → Int32) (a b : Int32), sea1 x.toNatClampNeg 1 A B → SSC I J ri rj rq m lv (g_X12_seaStands_K207_3 m I J rj rq a b x (g_X12_seaStands_L8 m lv I J ri rj rq n) ((100 : Int32) + (16 : Int32) * x) (va_up ri 384 B)) := fun B a b h => by
            rw [g_X12_seaStands_K207_3_e]
            simp only [↓ap1_n, bnI_u, tableAt_m4, va_up_self, up_up, i8, i9]
            split
            · exact kA3 _ _ _ h
            · split
              · exact kB3 _ _ _ (sea1_k h (by decide))
              · exact kB3 _ _ _ (sea1_k (sea1_k h (by decide)) (by decide))
          have kA4 : ∀ (B : Nat → Int32) (a b : Int32), sea1 x.toNatClampNeg 1 A B → SSC I J ri rj rq m lv (g_X12_seaStands_K360_4 x (g_X12_seaStands_L8 m lv I J ri rj rq n) a b (va_up ri 384 B)) := fun B a b h => by
            rw [g_X12_seaStands_K360_4_e]
            simp only [↓ap1_n]
            exact fin1 B a b h
          have kB4 : ∀ (B : Nat → Int32) (a b : Int32), sea1 x.toNatClampNeg 1 A B → SSC I J ri rj rq m lv (g_X12_seaStands_K287_2 x (g_X12_seaStands_L8 m lv I J ri rj rq n) ((100 : Int32) + (16 : Int32) * x) a b (va_up ri 384 B)) := fun B a b h => by
            rw [g_X12_seaStands_K287_2_e]
            simp only [↓ap1_n, va_up_self, up_up, i10]
            split
            · exact kA4 _ _ _ h
            · exact kA4 _ _ _ (sea1_k h (by decide))
          have kC4 : ∀ (B : Nat → Int32) (a b : Int32), sea1 x.toNatClampNeg 1 A B → SSC I J ri rj rq m lv (g_X12_seaStands_K207_4 m I J rj rq x (g_X12_seaStands_L8 m lv I J ri rj rq n) ((100 : Int32) + (16 : Int32) * x) (va_up ri 384 B) a b) := fun B a b h => by
            rw [g_X12_seaStands_K207_4_e]
            simp only [↓ap1_n, bnI_u, tableAt_m4, va_up_self, up_up, i8, i9]
            split
            · exact kA4 _ _ _ h
            · split
              · exact kB4 _ _ _ (sea1_k h (by decide))
              · exact kB4 _ _ _ (sea1_k (sea1_k h (by decide)) (by decide))
          have kF4 : ∀ (B : Nat → Int32) (a b : Int32), sea1 x.toNatClampNeg 1 A B → SSC I J ri rj rq m lv (g_X12_seaStands_K167_4 m I J rj rq b x (g_X12_seaStands_L8 m lv I J ri rj rq n) ((100 : Int32) + (16 : Int32) * x) (va_up ri 384 B) a) := fun B a b h => by
            rw [g_X12_seaStands_K167_4_e]
            simp only [↓ap1_n, g_X12_seaStands_K191_4]
            split
            · exact kC4 _ _ _ h
            · exact kC4 _ _ _ h
          have h3w : sea1 x.toNatClampNeg 1 A (upd (upd (upd A (100 + 16 * x.toNatClampNeg + 12) 1) (100 + 16 * x.toNatClampNeg + 13) 0) (100 + 16 * x.toNatClampNeg + 11) 0) := sea1_k (sea1_k sea1_0 (by decide)) (by decide)
          have h4w : sea1 x.toNatClampNeg 1 A (upd (upd (upd A (100 + 16 * x.toNatClampNeg + 12) 1) (100 + 16 * x.toNatClampNeg + 13) 1) (100 + 16 * x.toNatClampNeg + 11) 0) := sea1_k (sea1_k sea1_0 (by decide)) (by decide)
          rw [if_neg d, g_X12_seaStands_K51_2_e]
          simp only [↓ap1_n, bnI_u]
          split
          · simp only [g_X12_seaStands_K75_3, g_X12_seaStands_K96_3, g_X12_seaStands_K116_3, g_X12_seaStands_K147_3, g_X12_seaStands_K167_3, g_X12_seaStands_K191_3, ↓ap1_n, i11, i12, i13, va_up_self, up_up]
            exact kC3 _ _ _ h3w
          · simp only [g_X12_seaStands_K75_4, g_X12_seaStands_K96_4, g_X12_seaStands_K116_4, g_X12_seaStands_K147_4, ↓ap1_n, i11, i12, i13, va_up_self, up_up]
            split
            · exact kF4 _ _ _ h4w
            · exact kF4 _ _ _ h4w
  rw [g_X12_seaStands_e]
  have h := go ((40 - (0 : Int32).toInt).toNat + 1) 0 0 0 (ri 384) (by decide) h0 (Nat.lt_succ_self _) zt_rf (fun c hc => absurd hc (by rw [show (0 : Int32).toNatClampNeg = 0 from by decide]; exact Nat.not_lt_zero _))
  rw [up_id] at h
  exact h
end PU6
