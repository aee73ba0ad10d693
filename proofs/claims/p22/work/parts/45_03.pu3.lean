/-! ===== pure: SAND of the reference ===== -/
section PU3
variable {I : Nat → Int32} {J : Nat → Int64} {ri : Nat → Nat → Int32} {rj : Nat → Nat → Int64} {rq : Nat → Nat → Option Nat}
/-- the next CELL of a CELL's RING, as the class keeps it -/
def NXT (nx rg : Nat → Int32) (N : Nat) : Prop := ∀ c, c < N → (nx c = -1 ∧ ∀ k, c < k → k < N → rg k ≠ rg c) ∨ ∃ k, c < k ∧ k < N ∧ rg k = rg c ∧ (∀ i, c < i → i < k → rg i ≠ rg c) ∧ (nx c).toInt = (k : Int)
theorem cellAt_v0 {x : Int32} : g_X12_cellAt_c0 x I J ri rj rq = (ri 384 ((100 : Int32) + (16 : Int32) * x + 0).toNatClampNeg, I, J, ri, rj, rq) := rfl
theorem cellAt_v4 {x : Int32} : g_X12_cellAt_c4 x I J ri rj rq = (ri 384 ((100 : Int32) + (16 : Int32) * x + 4).toNatClampNeg, I, J, ri, rj, rq) := rfl
theorem cellAt_v6 {x : Int32} : g_X12_cellAt_c6 x I J ri rj rq = (ri 384 ((100 : Int32) + (16 : Int32) * x + 6).toNatClampNeg, I, J, ri, rj, rq) := rfl
theorem tableAt_3 {m : Int32} : g_X12_tableAt_c3 m I J ri rj rq = (ri 384 ((20 : Int32) + (5 : Int32) * tmod m + 3).toNatClampNeg, I, J, ri, rj, rq) := rfl
/-- all but the SAND and THE DEEP -/
def zs (f g : Nat → Int32) : Prop := ∀ i, i ≠ 9 → (∀ c, c < 40 → i ≠ 100 + 16 * c + 4) → g i = f i
theorem zs_rf {f : Nat → Int32} : zs f f := fun _ _ _ => rfl
theorem zs_tr {f g h : Nat → Int32} (a : zs f g) (b : zs g h) : zs f h := fun i h1 h2 => (b i h1 h2).trans (a i h1 h2)
theorem zs_st {c : Nat} {f : Nat → Int32} {v : Int32} (hc : c < 40) : zs f (upd f (100 + 16 * c + 4) v) := fun i _ hi => upd_n _ _ (hi c hc)
theorem zs_9 {f : Nat → Int32} {v : Int32} : zs f (upd f 9 v) := fun i hi _ => upd_n _ _ hi
theorem sand_to {N c : Int32} {k : Int32 → (Nat → Nat → Int32) → vM} {r : Nat → Nat → Int32} (hN : N.toInt ≤ 40) (hc0 : 0 ≤ c.toInt) (hc1 : c.toInt < N.toInt) : ∀ (n : Nat) (x : Int32), c.toInt < x.toInt → x.toInt ≤ N.toInt → (40 - x.toInt).toNat < n → (∀ i : Nat, c.toNatClampNeg < i → i < x.toNatClampNeg → r 384 (100 + 16 * i) ≠ r 384 (100 + 16 * c.toNatClampNeg)) → ∃ y : Int32, g_X12_sandGoes_L104 I J rj rq N c k r n x = g_X12_sandGoes_K135 y N c k r ∧ c.toInt < y.toInt ∧ y.toInt ≤ N.toInt ∧ (∀ i : Nat, c.toNatClampNeg < i → i < y.toNatClampNeg → r 384 (100 + 16 * i) ≠ r 384 (100 + 16 * c.toNatClampNeg)) ∧ (y.toInt < N.toInt → r 384 (100 + 16 * y.toNatClampNeg) = r 384 (100 + 16 * c.toNatClampNeg)) := by
  intro n
  induction n with
  | zero => intro x _ _ h; exact absurd h (Nat.not_lt_zero _)
  | succ n ih =>
    intro x h1 h2 h3 h4
    have zx := clampE x
    have zc := clampE c
    rw [g_X12_sandGoes_L104_e]
    simp only [bnI_u, cellAt_v0, ↓ap1_n]
    by_cases d : N ≤ x
    · have d1 := Int32.le_iff_toInt_le.mp d
      rw [if_pos d]
      exact ⟨x, rfl, h1, h2, h4, fun q => by omega⟩
    · have d1 := Int32.lt_iff_toInt_lt.mp (Int32.not_le.mp d)
      have e := t1_inc (x := x) (by omega) (by omega)
      have z3 := clampE (x + Int32.ofInt 1)
      have ix := ixk (c := x) (k := 0) 0 (by decide) (by decide) (by omega) (by omega)
      have ic := ixk (c := c) (k := 0) 0 (by decide) (by decide) (by omega) (by omega)
      rw [if_neg d, ix, ic, Nat.add_zero, Nat.add_zero]
      by_cases q : r 384 (100 + 16 * x.toNatClampNeg) = r 384 (100 + 16 * c.toNatClampNeg)
      · rw [if_pos q]
        exact ⟨x, rfl, h1, h2, h4, fun _ => q⟩
      · rw [if_neg q]
        exact ih _ (by omega) (by omega) (by omega) (fun i i1 i2 => by
          by_cases w : i = x.toNatClampNeg
          · rw [w]; exact q
          · exact h4 i i1 (by omega))
theorem sand_2 {N : Int32} {nx lv rg : Nat → Int32} (hN : N.toInt ≤ 40) (hx : NXT nx rg N.toNatClampNeg) : ∀ (n : Nat) (x : Int32) (r : Nat → Nat → Int32) (s : Nat → Int32), 0 ≤ x.toInt → x.toInt ≤ N.toInt → (40 - x.toInt).toNat < n → (∀ c, c < 40 → r 384 (100 + 16 * c) = rg c) → (∀ c, c < 40 → r 384 (100 + 16 * c + 4) = s c) → (∀ c, c < N.toNatClampNeg → r 409 c = lv c) → ∃ B : Nat → Int32, g_X12_sandGoes_L67 I J rj rq N n x r = (I, J, va_up r 384 B, rj, rq) ∧ zs (r 384) B ∧ ∀ c, c < 40 → B (100 + 16 * c + 4) = wkS nx lv (N.toNatClampNeg - x.toNatClampNeg) x.toNatClampNeg s c := by
  intro n
  induction n with
  | zero => intro x r s _ _ h; exact absurd h (Nat.not_lt_zero _)
  | succ n ih =>
    intro x r s h1 h2 h3 hr hs hl
    have zx := clampE x
    have zN := clampE N
    rw [g_X12_sandGoes_L67_e]
    simp only [↓ap1_n]
    by_cases d : N ≤ x
    · have d1 := Int32.le_iff_toInt_le.mp d
      rw [if_pos d, show N.toNatClampNeg - x.toNatClampNeg = 0 from by omega]
      exact ⟨r 384, by rw [up_id], zs_rf, hs⟩
    · have d1 := Int32.lt_iff_toInt_lt.mp (Int32.not_le.mp d)
      have e := t1_inc (x := x) (by omega) (by omega)
      have e1 := t1_one (x := x) (by omega) (by omega)
      have z3 := clampE (x + Int32.ofInt 1)
      have ix := ixk (c := x) (k := 4) 4 (by decide) (by decide) (by omega) (by omega)
      have hx1 : (x + Int32.ofInt 1).toNatClampNeg = x.toNatClampNeg + 1 := by omega
      have hc40 : x.toNatClampNeg < 40 := by omega
      rw [if_neg d, ix, hs _ hc40, hl _ (by omega)]
      generalize hA : upd (r 384) (100 + 16 * x.toNatClampNeg + 4) (s x.toNatClampNeg - lv x.toNatClampNeg) = A
      have hr1 : ∀ c, c < 40 → va_up r 384 A 384 (100 + 16 * c) = rg c := fun c hc => by rw [va_up_self, ← hA, upd_n _ _ (by omega)]; exact hr c hc
      obtain ⟨y, ey, y1, y2, y3, y4⟩ := sand_to (I := I) (J := J) (rj := rj) (rq := rq) (N := N) (c := x) (k := g_X12_sandGoes_L67 I J rj rq N n) (r := va_up r 384 A) hN h1 d1 ((40 - (x + 1).toInt).toNat + 1) (x + 1) (by omega) (by omega) (Nat.lt_succ_self _) (fun i i1 i2 => by have z4 := clampE (x + 1); omega)
      rw [ey]
      have zy := clampE y
      have r9 : va_up r 384 A 409 x.toNatClampNeg = lv x.toNatClampNeg := by rw [va_up_ne _ _ (show (409 : Nat) ≠ 384 by decide)]; exact hl _ (by omega)
      simp only [g_X12_sandGoes_K135, g_X12_sandGoes_K187, ↓ap1_n, r9, va_up_self, up_up]
      -- the SAND when this CELL's has gone
      have s1 : ∀ c, c < 40 → A (100 + 16 * c + 4) = upd s x.toNatClampNeg (s x.toNatClampNeg - lv x.toNatClampNeg) c := fun c hc => by
        rw [← hA]
        by_cases q : c = x.toNatClampNeg
        · subst q; rw [upd_s, upd_s]
        · rw [upd_n _ _ (by omega), upd_n _ _ q]; exact hs c hc
      have zA : zs (r 384) A := by rw [← hA]; exact zs_st hc40
      have fin : ∀ A2 : Nat → Int32, zs (r 384) A2 → (∀ c, c < 40 → A2 (100 + 16 * c + 4) = wk1 nx lv x.toNatClampNeg s c) → ∃ B : Nat → Int32, g_X12_sandGoes_L67 I J rj rq N n (x + Int32.ofInt 1) (va_up r 384 A2) = (I, J, va_up r 384 B, rj, rq) ∧ zs (r 384) B ∧ ∀ c, c < 40 → B (100 + 16 * c + 4) = wkS nx lv (N.toNatClampNeg - x.toNatClampNeg) x.toNatClampNeg s c := fun A2 w1 w2 => by
        obtain ⟨B, b1, b2, b3⟩ := ih (x + Int32.ofInt 1) (va_up r 384 A2) (wk1 nx lv x.toNatClampNeg s) (by omega) (by omega) (by omega) (fun c hc => by rw [va_up_self, w1 _ (by omega) (fun c2 _ => by omega)]; exact hr c hc) (fun c hc => by rw [va_up_self]; exact w2 c hc) (fun c hc => by rw [va_up_ne _ _ (show (409 : Nat) ≠ 384 by decide)]; exact hl c hc)
        rw [up_up] at b1
        rw [va_up_self] at b2
        refine ⟨B, b1, zs_tr w1 b2, fun c hc => ?_⟩
        rw [b3 c hc, hx1, show N.toNatClampNeg - x.toNatClampNeg = (N.toNatClampNeg - (x.toNatClampNeg + 1)) + 1 from by omega]
        rfl
      have rgx : va_up r 384 A 384 (100 + 16 * x.toNatClampNeg) = rg x.toNatClampNeg := hr1 _ hc40
      by_cases dy : N ≤ y
      · have dy1 := Int32.le_iff_toInt_le.mp dy
        rw [if_pos dy]
        have hn : nx x.toNatClampNeg = -1 := by
          rcases hx x.toNatClampNeg (by omega) with ⟨a, _⟩ | ⟨k, k1, k2, k3, _, _⟩
          · exact a
          · exact absurd ((hr1 k (by omega)).trans (k3.trans rgx.symm)) (y3 k k1 (by omega))
        rw [show (9 : Int32).toNatClampNeg = 9 from by decide]
        refine fin _ (zs_tr zA zs_9) (fun c hc => ?_)
        rw [upd_n _ _ (by omega), s1 c hc]
        unfold wk1
        rw [if_pos hn]
      · have dy1 := Int32.lt_iff_toInt_lt.mp (Int32.not_le.mp dy)
        have iy := ixk (c := y) (k := 4) 4 (by decide) (by decide) (by omega) (by omega)
        rw [if_neg dy, iy, s1 _ (by omega)]
        have hn : nx x.toNatClampNeg ≠ -1 ∧ (nx x.toNatClampNeg).toNatClampNeg = y.toNatClampNeg := by
          rcases hx x.toNatClampNeg (by omega) with ⟨_, b⟩ | ⟨k, k1, k2, k3, k4, k5⟩
          · exact absurd ((hr1 _ (by omega)).symm.trans ((y4 dy1).trans rgx)) (b y.toNatClampNeg (by omega) (by omega))
          · have zk := clampE (nx x.toNatClampNeg)
            refine ⟨fun q => by rw [q] at k5; have : (-1 : Int32).toInt = -1 := by decide
                                omega, ?_⟩
            by_cases w : k < y.toNatClampNeg
            · exact absurd ((hr1 k (by omega)).trans (k3.trans rgx.symm)) (y3 k k1 w)
            · by_cases w2 : y.toNatClampNeg < k
              · exact absurd ((hr1 _ (by omega)).symm.trans ((y4 dy1).trans rgx)) (k4 y.toNatClampNeg (by omega) w2)
              · omega
        refine fin _ (zs_tr zA (zs_st (by omega))) (fun c hc => ?_)
        unfold wk1
        rw [if_neg hn.1, hn.2]
        by_cases q : c = y.toNatClampNeg
        · subst q; rw [upd_s, upd_s]
        · rw [upd_n _ _ (by omega), upd_n _ _ q]; exact s1 c hc
theorem minS {d x : Int32} : (if d ≤ x then d else x) = if d < x then d else x := by
  by_cases a : d < x
  · rw [if_pos a, if_pos (Int32.le_of_lt a)]
  · rw [if_neg a]
    by_cases b : d ≤ x
    · rw [if_pos b]
      exact Int32.toInt_inj.mp (by have b1 := Int32.le_iff_toInt_le.mp b; have a1 := Int32.le_iff_toInt_le.mp (Int32.not_lt.mp a); omega)
    · rw [if_neg b]
theorem sandGoes_v {m : Int32} {nx s w rg : Nat → Int32} (hm0 : 0 ≤ m.toInt) (hm1 : m.toInt ≤ 600) (h0 : 0 ≤ (ri 384 2).toInt) (h40 : (ri 384 2).toInt ≤ 40) (hx : NXT nx rg (ri 384 2).toNatClampNeg) (hr : ∀ c, c < 40 → ri 384 (100 + 16 * c) = rg c) (hs : ∀ c, c < 40 → ri 384 (100 + 16 * c + 4) = s c) (hw : ∀ c, c < 40 → ri 384 (100 + 16 * c + 6) = w c ∧ 0 ≤ (w c).toInt) : ∃ (g B : Nat → Int32), g_X12_sandGoes m I J ri rj rq = (I, J, va_up (va_up ri 409 g) 384 B, rj, rq) ∧ zs (ri 384) B ∧ ∀ c, c < 40 → B (100 + 16 * c + 4) = skS (ri 384 (20 + 5 * (tmod m).toNatClampNeg + 3)) nx w s (ri 384 2).toNatClampNeg c := by
  have tm := tmod_r hm0 (by omega)
  have zN := clampE (ri 384 2)
  have go : ∀ (n : Nat) (x : Int32) (g : Nat → Int32), 0 ≤ x.toInt → x.toInt ≤ (ri 384 2).toInt → (40 - x.toInt).toNat < n → (∀ c, c < x.toNatClampNeg → g c = lvS (ri 384 (20 + 5 * (tmod m).toNatClampNeg + 3)) w s c) → ∃ g2 : Nat → Int32, g_X12_sandGoes_L2 m I J ri rj rq n x (va_up ri 409 g) = g_X12_sandGoes_L67 I J rj rq (ri 384 2) ((40 - (0 : Int32).toInt).toNat + 1) 0 (va_up ri 409 g2) ∧ ∀ c, c < (ri 384 2).toNatClampNeg → g2 c = lvS (ri 384 (20 + 5 * (tmod m).toNatClampNeg + 3)) w s c := by
    intro n
    induction n with
    | zero => intro x g _ _ h; exact absurd h (Nat.not_lt_zero _)
    | succ n ih =>
      intro x g h1 h2 h3 hg
      have zx := clampE x
      rw [g_X12_sandGoes_L2_e]
      simp only [↓ap1_n, bnI_u, tableAt_3, cellAt_v6, cellAt_v4, va_up_ne _ _ (show (384 : Nat) ≠ 409 by decide)]
      by_cases d : ri 384 2 ≤ x
      · have d1 := Int32.le_iff_toInt_le.mp d
        rw [if_pos d]
        exact ⟨g, rfl, fun c hc => hg c (by omega)⟩
      · have d1 := Int32.lt_iff_toInt_lt.mp (Int32.not_le.mp d)
        have e := t1_inc (x := x) (by omega) (by omega)
        have z3 := clampE (x + Int32.ofInt 1)
        have i4 := ixk (c := x) (k := 4) 4 (by decide) (by decide) (by omega) (by omega)
        have i6 := ixk (c := x) (k := 6) 6 (by decide) (by decide) (by omega) (by omega)
        have i3 := ixt (x := tmod m) (k := 3) 3 (by decide) (by decide) tm.1 tm.2
        rw [if_neg d, i6, i4, i3, hs _ (by omega), (hw _ (by omega)).1]
        have key : ∀ v : Int32, v = lvS (ri 384 (20 + 5 * (tmod m).toNatClampNeg + 3)) w s x.toNatClampNeg → ∃ g2 : Nat → Int32, g_X12_sandGoes_K58 x (va_up ri 409 g) (g_X12_sandGoes_L2 m I J ri rj rq n) v = g_X12_sandGoes_L67 I J rj rq (ri 384 2) ((40 - (0 : Int32).toInt).toNat + 1) 0 (va_up ri 409 g2) ∧ ∀ c, c < (ri 384 2).toNatClampNeg → g2 c = lvS (ri 384 (20 + 5 * (tmod m).toNatClampNeg + 3)) w s c := fun v hv => by
          simp only [g_X12_sandGoes_K58, ↓ap1_n, va_up_self, up_up]
          refine ih _ _ (by omega) (by omega) (by omega) (fun c hc => ?_)
          by_cases q : c = x.toNatClampNeg
          · subst q; rw [upd_s]; exact hv
          · rw [upd_n _ _ q]; exact hg c (by omega)
        have hw0 := (hw x.toNatClampNeg (by omega)).2
        by_cases d2 : w x.toNatClampNeg ≤ 0
        · have d3 := Int32.le_iff_toInt_le.mp d2
          have k0 : (0 : Int32).toInt = 0 := by decide
          have w0 : w x.toNatClampNeg = 0 := Int32.toInt_inj.mp (by omega)
          rw [if_pos d2]
          have hm := minS (d := ri 384 (20 + 5 * (tmod m).toNatClampNeg + 3)) (x := s x.toNatClampNeg)
          by_cases d4 : ri 384 (20 + 5 * (tmod m).toNatClampNeg + 3) ≤ s x.toNatClampNeg
          · rw [if_pos d4] at hm
            rw [if_pos d4]
            exact key _ (by unfold lvS; rw [if_pos w0]; exact hm)
          · rw [if_neg d4] at hm
            rw [if_neg d4]
            exact key _ (by unfold lvS; rw [if_pos w0]; exact hm)
        · rw [if_neg d2]
          exact key _ (by unfold lvS; rw [if_neg (fun q => d2 (by rw [q]; exact Int32.le_refl _))])
  rw [g_X12_sandGoes_e]
  obtain ⟨g, e1, e2⟩ := go ((40 - (0 : Int32).toInt).toNat + 1) 0 (ri 409) (by decide) h0 (Nat.lt_succ_self _) (fun c hc => absurd hc (by rw [show (0 : Int32).toNatClampNeg = 0 from by decide]; exact Nat.not_lt_zero _))
  rw [up_id] at e1
  rw [e1]
  obtain ⟨B, b1, b2, b3⟩ := sand_2 (I := I) (J := J) (rj := rj) (rq := rq) (N := ri 384 2) (nx := nx) (rg := rg) (lv := fun j => if j < (ri 384 2).toNatClampNeg then lvS (ri 384 (20 + 5 * (tmod m).toNatClampNeg + 3)) w s j else 0) h40 hx ((40 - (0 : Int32).toInt).toNat + 1) 0 (va_up ri 409 g) s (by decide) h0 (Nat.lt_succ_self _) (fun c hc => by rw [va_up_ne _ _ (show (384 : Nat) ≠ 409 by decide)]; exact hr c hc) (fun c hc => by rw [va_up_ne _ _ (show (384 : Nat) ≠ 409 by decide)]; exact hs c hc) (fun c hc => by rw [va_up_self, if_pos hc]; exact e2 c hc)
  rw [va_up_ne _ _ (show (384 : Nat) ≠ 409 by decide)] at b2
  refine ⟨g, B, b1, b2, fun c hc => ?_⟩
  rw [b3 c hc, show (0 : Int32).toNatClampNeg = 0 from by decide]
  rfl
end PU3
