/-! ===== pure: what BOATS leave of the reference's row ===== -/
section PU8
variable {I : Nat → Int32} {J : Nat → Int64} {ri : Nat → Nat → Int32} {rj : Nat → Nat → Int64} {rq : Nat → Nat → Option Nat}
/-- the rows of BOATS alone change, and the area where it may -/
def bz (r r1 : Nat → Nat → Int32) : Prop := (∀ t, t ≠ 384 → t ≠ 412 → r1 t = r t) ∧ zb (r 384) (r1 384)
theorem bz_rf {r : Nat → Nat → Int32} : bz r r := ⟨fun _ _ _ => rfl, zb_rf⟩
theorem bz_tr {r r1 r2 : Nat → Nat → Int32} (a : bz r r1) (b : bz r1 r2) : bz r r2 := ⟨fun t h1 h2 => (b.1 t h1 h2).trans (a.1 t h1 h2), zb_tr a.2 b.2⟩
theorem bz_l {r : Nat → Nat → Int32} {g : Nat → Int32} : bz r (va_up r 412 g) := ⟨fun _ _ h => va_up_ne _ _ h, by rw [va_up_ne _ _ (show (384 : Nat) ≠ 412 by decide)]; exact zb_rf⟩
theorem personAt3 {x : Int32} (h0 : 0 ≤ x.toInt) (h1 : x.toInt ≤ 39) : (g_X12_personAt_c3 x I J ri rj rq).1 = ri 384 (740 + 12 * x.toNatClampNeg + 3) := by
  have e : (g_X12_personAt_c3 x I J ri rj rq).1 = ri 384 ((740 : Int32) + (12 : Int32) * x + 3).toNatClampNeg := rfl
  rw [e, ixp (c := x) (k := 3) 3 (by decide) (by decide) h0 h1]
theorem isOfKin_d {x p g : Int32} (h0 : 0 ≤ x.toInt) (h1 : x.toInt ≤ 39) (h : (g_X12_isOfKin x p g I J ri rj rq).1 ≠ 0) : x = p ∨ ri 384 (740 + 12 * x.toNatClampNeg + 3) = g := by
  by_cases c : x = p
  · exact Or.inl c
  · refine Or.inr (Classical.byContradiction fun hn => h ?_)
    rw [g_X12_isOfKin_e]
    simp only [↓ap1_n, g_X12_isOfKin_K39, g_X12_isOfKin_K43, if_neg c]
    split
    · rw [bn_p g_X12_personAt_c0_f, bn_p g_X12_personAt_c0_f]
      split
      · rw [bn_p g_X12_personAt_c3_f, personAt3 h0 h1]
        simp only [if_neg hn]
      · rfl
    · rfl
theorem isOnRing_m {x : Int32} (h0 : 0 ≤ x.toInt) (h1 : x.toInt ≤ 39) (h : (g_X12_isOnRing x I J ri rj rq).1 ≠ 0) : ri 384 (740 + 12 * x.toNatClampNeg + 3) ≠ 300 := fun q => by
  refine h ?_
  rw [g_X12_isOnRing_e, bn_p g_X12_personAt_c3_f, personAt3 h0 h1, q]
  simp only [if_pos (show (100 : Int32) ≤ 300 by decide)]
theorem sails_f {p lot m : Int32} (h0 : 0 ≤ p.toInt) (h1 : p.toInt ≤ 39) (hd : ri 384 (740 + 12 * p.toNatClampNeg + 3) ≠ 300) (hl : 0 ≤ lot.toInt ∧ lot.toInt ≤ 100) : ∃ r1 : Nat → Nat → Int32, g_X12_sails p lot m I J ri rj rq = (I, J, r1, rj, rq) ∧ bz ri r1 := by
  have zp := clampE p
  rw [g_X12_sails_e]
  simp only [↓ap1_n, va_up_self, up_up, ixp (c := p) (k := 3) 3 (by decide) (by decide) h0 h1, ixp (c := p) (k := 7) 7 (by decide) (by decide) h0 h1]
  exact ⟨_, rfl, fun _ h _ => va_up_ne _ _ h, by rw [va_up_self]; exact zb_tr (zb_p3 (by omega) hd (hundred (by omega) hl.2)) (zb_p (by omega) (by decide))⟩
theorem family_f {p m left : Int32} (h0 : 0 ≤ p.toInt) (h1 : p.toInt ≤ 39) (h5 : (ri 384 5).toInt ≤ 40) (h4 : (ri 384 4).toInt ≤ 5) (hd : ri 384 (740 + 12 * p.toNatClampNeg + 3) ≠ 300) : ∃ (v : Int32) (r1 : Nat → Nat → Int32), g_X12_family p m left I J ri rj rq = (v, I, J, r1, rj, rq) ∧ bz ri r1 := by
  have zp := clampE p
  -- those who go
  have go1 : ∀ (n : Nat) (rg nn lot x : Int32) (r : Nat → Nat → Int32), rg ≠ 300 → 0 ≤ lot.toInt ∧ lot.toInt ≤ 100 → 0 ≤ x.toInt → (40 - x.toInt).toNat < n → bz ri r → ∃ (v : Int32) (r1 : Nat → Nat → Int32), g_X12_family_L111 p m I J rj rq rg nn (ri 384 5) lot n x r = (v, I, J, r1, rj, rq) ∧ bz ri r1 := by
    intro n
    induction n with
    | zero => intro rg nn lot x r _ _ _ h; exact absurd h (Nat.not_lt_zero _)
    | succ n ih =>
      intro rg nn lot x r hrg hlo x0 x3 hr
      have zx := clampE x
      rw [g_X12_family_L111_e]
      simp only [↓ap1_n]
      by_cases c : ri 384 5 ≤ x
      · rw [if_pos c]
        obtain ⟨r1, e1, b1⟩ := sails_f (I := I) (J := J) (ri := r) (rj := rj) (rq := rq) (lot := lot) (m := m) h0 h1 (fun q => hd ((hr.2.2 _ (by omega)).mp q)) hlo
        rw [e1]
        exact ⟨nn, r1, rfl, bz_tr hr b1⟩
      · have c1 := Int32.lt_iff_toInt_lt.mp (Int32.not_le.mp c)
        have e := t1_inc (x := x) (by omega) (by omega)
        rw [if_neg c, bn_p g_X12_isOfKin_f]
        simp only [g_X12_family_K168, ↓ap1_n]
        by_cases k : (g_X12_isOfKin x p rg I J r rj rq).1 = 0
        · rw [if_pos k]
          exact ih _ _ _ _ _ hrg hlo (by omega) (by omega) hr
        · rw [if_neg k]
          by_cases s : x = p
          · rw [if_pos s]
            exact ih _ _ _ _ _ hrg hlo (by omega) (by omega) (bz_tr hr bz_l)
          · rw [if_neg s]
            have hx : va_up r 412 (upd (r 412) x.toNatClampNeg 1) 384 (740 + 12 * x.toNatClampNeg + 3) ≠ 300 := by
              rw [va_up_ne _ _ (show (384 : Nat) ≠ 412 by decide), (isOfKin_d x0 (by omega) k).resolve_left s]
              exact hrg
            obtain ⟨r1, e1, b1⟩ := sails_f (I := I) (J := J) (ri := va_up r 412 (upd (r 412) x.toNatClampNeg 1)) (rj := rj) (rq := rq) (p := x) (lot := lot) (m := m) x0 (by omega) hx hlo
            rw [e1]
            exact ih _ _ _ _ _ hrg hlo (by omega) (by omega) (bz_tr hr (bz_tr bz_l b1))
  -- those who stay
  have go2 : ∀ (n : Nat) (rg x : Int32) (r : Nat → Nat → Int32), 0 ≤ x.toInt → (40 - x.toInt).toNat < n → bz ri r → ∃ (v : Int32) (r1 : Nat → Nat → Int32), g_X12_family_L111_2 p I J rj rq rg (ri 384 5) n x r = (v, I, J, r1, rj, rq) ∧ bz ri r1 := by
    intro n
    induction n with
    | zero => intro rg x r _ h; exact absurd h (Nat.not_lt_zero _)
    | succ n ih =>
      intro rg x r x0 x3 hr
      rw [g_X12_family_L111_2_e]
      simp only [↓ap1_n, g_X12_family_K187_2]
      by_cases c : ri 384 5 ≤ x
      · rw [if_pos c]
        exact ⟨0, r, rfl, hr⟩
      · have c1 := Int32.lt_iff_toInt_lt.mp (Int32.not_le.mp c)
        have e := t1_inc (x := x) (by omega) (by omega)
        rw [if_neg c, bn_p g_X12_isOfKin_f]
        simp only [g_X12_family_K168_2, ↓ap1_n]
        split
        · exact ih _ _ _ (by omega) (by omega) hr
        · split
          · exact ih _ _ _ (by omega) (by omega) (bz_tr hr bz_l)
          · exact ih _ _ _ (by omega) (by omega) (bz_tr hr bz_l)
  have fin : ∀ (rg nn lot y2 : Int32), rg ≠ 300 → 0 ≤ lot.toInt → y2.toInt ≤ 5 → ∃ (v : Int32) (r1 : Nat → Nat → Int32), g_X12_family_K84 p m left I J ri rj rq rg nn (ri 384 5) lot y2 = (v, I, J, r1, rj, rq) ∧ bz ri r1 := by
    intro rg nn lot y2 hrg hl0 hy
    simp only [g_X12_family_K84, g_X12_family_K105, g_X12_family_K106, g_X12_family_K106_2]
    by_cases c1 : left < nn
    · rw [if_pos c1]
      exact go2 _ _ _ _ (by decide) (Nat.lt_succ_self _) bz_rf
    · rw [if_neg c1]
      by_cases c2 : y2 ≤ lot
      · rw [if_pos c2]
        exact go2 _ _ _ _ (by decide) (Nat.lt_succ_self _) bz_rf
      · have c3 := Int32.lt_iff_toInt_lt.mp (Int32.not_le.mp c2)
        rw [if_neg c2]
        exact go1 _ _ _ _ _ _ hrg ⟨hl0, by omega⟩ (by decide) (Nat.lt_succ_self _) bz_rf
  -- the LOT
  have go3 : ∀ (n : Nat) (rg nn x : Int32), rg ≠ 300 → 0 ≤ x.toInt → ∃ (v : Int32) (r1 : Nat → Nat → Int32), g_X12_family_L56 p m left I J ri rj rq rg nn (ri 384 5) n x = (v, I, J, r1, rj, rq) ∧ bz ri r1 := by
    intro n
    induction n with
    | zero => intro rg nn x _ _; exact ⟨0, ri, rfl, bz_rf⟩
    | succ n ih =>
      intro rg nn x hrg x0
      rw [g_X12_family_L56_e]
      simp only [↓ap1_n]
      by_cases c : ri 384 4 ≤ x
      · rw [if_pos c]
        exact fin _ _ _ _ hrg x0 h4
      · have c1 := Int32.lt_iff_toInt_lt.mp (Int32.not_le.mp c)
        have e := t1_inc (x := x) (by omega) (by omega)
        rw [if_neg c, bn_p g_X12_freeIn_f]
        split
        · exact fin _ _ _ _ hrg x0 h4
        · exact ih _ _ _ hrg (by omega)
  have go4 : ∀ (n : Nat) (rg nn x : Int32), rg ≠ 300 → ∃ (v : Int32) (r1 : Nat → Nat → Int32), g_X12_family_L14 p m left I J ri rj rq rg n nn x = (v, I, J, r1, rj, rq) ∧ bz ri r1 := by
    intro n
    induction n with
    | zero => intro rg nn x _; exact ⟨0, ri, rfl, bz_rf⟩
    | succ n ih =>
      intro rg nn x hrg
      rw [g_X12_family_L14_e]
      simp only [↓ap1_n]
      split
      · exact go3 _ _ _ _ hrg (by decide)
      · rw [bn_p g_X12_isOfKin_f]
        simp only [g_X12_family_K44, g_X12_family_K44_2, ↓ap1_n]
        split
        · exact ih _ _ _ hrg
        · exact ih _ _ _ hrg
  rw [g_X12_family_e, bn_p g_X12_personAt_c3_f]
  exact go4 _ _ _ _ (by rw [personAt3 h0 h1]; exact hd)
/-- the row of those who may -/
def rowP (A : Nat → Int32) (r : Nat → Nat → Int32) (n : Int) : Prop := ∀ k : Nat, (k : Int) < n → 0 ≤ (r 411 k).toInt ∧ (r 411 k).toInt ≤ 39 ∧ A (740 + 12 * (r 411 k).toNatClampNeg + 3) ≠ 300
theorem boatsGo_b {m : Int32} (h5 : (ri 384 5).toInt ≤ 40) (h4 : (ri 384 4).toInt ≤ 5) : ∃ (I1 : Nat → Int32) (r1 : Nat → Nat → Int32) (l1 : Nat → Nat → Int64), g_X12_boatsGo m I J ri rj rq = (I1, J, r1, l1, rq) ∧ (∀ f, f ≠ 406 → I1 f = I f) ∧ (∀ t, t ∉ [384, 405, 411, 412] → r1 t = ri t) ∧ zb (ri 384) (r1 384) := by
  -- all but the rows of BOATS
  have last : ∀ (I1 : Nat → Int32) (l1 : Nat → Nat → Int64) (N : Int32) (n : Nat) (left x : Int32) (r : Nat → Nat → Int32), 0 ≤ x.toInt → rowP (ri 384) r N.toInt → (r 384 5 = ri 384 5) → (∀ t, t ∉ [384, 405, 411, 412] → r t = ri t) → zb (ri 384) (r 384) → ∃ r1 : Nat → Nat → Int32, g_X12_boatsGo_L142 m J rq I1 N l1 n left x r = (I1, J, r1, l1, rq) ∧ (∀ t, t ∉ [384, 405, 411, 412] → r1 t = ri t) ∧ zb (ri 384) (r1 384) := by
    intro I1 l1 N n
    induction n with
    | zero => intro left x r _ _ _ h1 h2; exact ⟨r, rfl, h1, h2⟩
    | succ n ih =>
      intro left x r x0 hp h55 h1 h2
      have zx := clampE x
      rw [g_X12_boatsGo_L142_e]
      simp only [↓ap1_n]
      by_cases c : N ≤ x
      · rw [if_pos c]; exact ⟨r, rfl, h1, h2⟩
      · have c1 := Int32.lt_iff_toInt_lt.mp (Int32.not_le.mp c)
        have e := t1_inc (x := x) (by omega) (by have := N.toInt_lt; omega)
        rw [if_neg c]
        simp only [g_X12_boatsGo_K182, ↓ap1_n]
        split
        · have hq := hp x.toNatClampNeg (by omega)
          have zq : (r 411 x.toNatClampNeg).toNatClampNeg < 40 := by
            have z := clampE (r 411 x.toNatClampNeg)
            omega
          obtain ⟨v, r1, e1, b1⟩ := family_f (I := I1) (J := J) (ri := r) (rj := l1) (rq := rq) (p := r 411 x.toNatClampNeg) (m := m) (left := left) hq.1 hq.2.1 (by rw [h55]; exact h5) (by rw [h2.1 4 (by decide) (fun c _ => by omega) (fun p k _ _ => by omega)]; exact h4) (fun y => hq.2.2 ((h2.2 _ zq).mp y))
          rw [bn_n e1]
          have r411 : r1 411 = r 411 := b1.1 411 (by decide) (by decide)
          refine ih _ _ _ (by omega) (fun k hk => by rw [r411]; exact hp k hk) ?_ (fun t ht => ?_) (zb_tr h2 b1.2)
          · rw [b1.2.1 5 (by decide) (fun c _ => by omega) (fun p k _ _ => by omega)]; exact h55
          · rw [b1.1 t (fun q => ht (by rw [q]; decide)) (fun q => ht (by rw [q]; decide))]; exact h1 t ht
        · exact ih _ _ _ (by omega) hp h55 h1 h2
  have main : ∀ (I1 : Nat → Int32) (hk : Int32) (n : Nat) (N p : Int32) (r : Nat → Nat → Int32) (l : Nat → Nat → Int64), 0 ≤ p.toInt → 0 ≤ N.toInt → N.toInt ≤ p.toInt → (40 - p.toInt).toNat < n → rowP (ri 384) r N.toInt → r 384 = ri 384 → (∀ t, t ∉ [384, 405, 411, 412] → r t = ri t) → ∃ (r1 : Nat → Nat → Int32) (l1 : Nat → Nat → Int64), g_X12_boatsGo_L12 m J ri rq I1 hk n N p r l = (I1, J, r1, l1, rq) ∧ (∀ t, t ∉ [384, 405, 411, 412] → r1 t = ri t) ∧ zb (ri 384) (r1 384) := by
    intro I1 hk n
    induction n with
    | zero => intro N p r l _ _ _ h; exact absurd h (Nat.not_lt_zero _)
    | succ n ih =>
      intro N p r l p0 n0 np p3 hp h384 h1
      rw [g_X12_boatsGo_L12_e]
      simp only [↓ap1_n]
      by_cases c : ri 384 5 ≤ p
      · rw [if_pos c]
        obtain ⟨r1, e1, e2, e3⟩ := last I1 l N ((40 - (0 : Int32).toInt).toNat + 1) (r 384 (11 : Int32).toNatClampNeg) 0 r (by decide) hp (by rw [h384]) h1 (by rw [h384]; exact zb_rf)
        exact ⟨r1, l, e1, e2, e3⟩
      · have c1 := Int32.lt_iff_toInt_lt.mp (Int32.not_le.mp c)
        have e := t1_inc (x := p) (by omega) (by omega)
        have eN := t1_inc (x := N) (by omega) (by omega)
        have no412 : ∀ (r : Nat → Nat → Int32) (g : Nat → Int32), (∀ t, t ∉ [384, 405, 411, 412] → r t = ri t) → ∀ t, t ∉ [384, 405, 411, 412] → va_up r 412 g t = ri t := fun r g hr t ht => by
          rw [va_up_ne _ _ (fun q => ht (by rw [q]; decide))]; exact hr t ht
        rw [if_neg c, bn_p g_X12_isOnRing_f]
        by_cases kr : (g_X12_isOnRing p I1 J (va_up r 412 (upd (r 412) p.toNatClampNeg 1)) l rq).1 = 0
        · rw [if_pos kr]
          exact ih _ _ _ _ (by omega) n0 (by omega) (by omega) (fun k hk => by rw [va_up_ne _ _ (show (411 : Nat) ≠ 412 by decide)]; exact hp k hk) (by rw [va_up_ne _ _ (show (384 : Nat) ≠ 412 by decide)]; exact h384) (no412 _ _ h1)
        · -- whether it may
          have hpd : ri 384 (740 + 12 * p.toNatClampNeg + 3) ≠ 300 := by
            have q := isOnRing_m p0 (by omega) kr
            rw [va_up_ne _ _ (show (384 : Nat) ≠ 412 by decide), h384] at q
            exact q
          rw [if_neg kr]
          have fr : FRG Prod.snd w_X12_isFor (I1, J, va_up r 412 (upd (r 412) p.toNatClampNeg 1), l, rq) (g_X12_isFor 3 p m I1 J (va_up r 412 (upd (r 412) p.toNatClampNeg 1)) l rq) := g_X12_isFor_f
          generalize g_X12_isFor 3 p m I1 J (va_up r 412 (upd (r 412) p.toNatClampNeg 1)) l rq = q at fr ⊢
          obtain ⟨v, I2, J2, r2, l2, q2⟩ := q
          obtain ⟨f1, f2, f3, f4, f5⟩ := fr
          have e1 : I2 = I1 := funext fun f => f1 f (fun x => by have y : f ∈ ([] : List Nat) := x; cases y)
          have e2 : J2 = J := funext fun f => f2 f (fun x => by have y : f ∈ ([] : List Nat) := x; cases y)
          have e5 : q2 = rq := funext fun f => f5 f (fun x => by have y : f ∈ ([] : List Nat) := x; cases y)
          have e3 : ∀ t, t ≠ 405 → r2 t = va_up r 412 (upd (r 412) p.toNatClampNeg 1) t := fun t ht => f3 t (fun x => ht (List.mem_singleton.mp x))
          subst e1 e2 e5
          simp only [bnI_u]
          have r2p : rowP (ri 384) r2 N.toInt := fun k hk => by rw [e3 411 (by decide), va_up_ne _ _ (show (411 : Nat) ≠ 412 by decide)]; exact hp k hk
          have r2a : r2 384 = ri 384 := by rw [e3 384 (by decide), va_up_ne _ _ (show (384 : Nat) ≠ 412 by decide)]; exact h384
          have r2o : ∀ t, t ∉ [384, 405, 411, 412] → r2 t = ri t := fun t ht => by
            rw [e3 t (fun q => ht (by rw [q]; decide))]; exact no412 _ _ h1 t ht
          split
          · exact ih _ _ _ _ (by omega) n0 (by omega) (by omega) r2p r2a r2o
          · -- its place among them
            have ins : ∀ (w : Nat) (x : Int32) (s : Nat → Nat → Int32), 0 ≤ x.toInt → x.toInt ≤ N.toInt → x.toInt.toNat < w → ((x = N ∧ rowP (ri 384) s N.toInt) ∨ rowP (ri 384) s (N.toInt + 1)) → s 384 = ri 384 → (∀ t, t ∉ [384, 405, 411, 412] → s t = ri t) → ∃ (r1 : Nat → Nat → Int32) (l1 : Nat → Nat → Int64), g_X12_boatsGo_L65 m J2 q2 I2 hk N p (g_X12_boatsGo_L12 m J2 ri q2 I2 hk n) l2 w x s = (I2, J2, r1, l1, q2) ∧ (∀ t, t ∉ [384, 405, 411, 412] → r1 t = ri t) ∧ zb (ri 384) (r1 384) := by
              intro w
              induction w with
              | zero => intro x s _ _ h; exact absurd h (Nat.not_lt_zero _)
              | succ w iw =>
                intro x s x0 x1 x2 hs sa so
                have zx := clampE x
                have k0 : (0 : Int32).toInt = 0 := by decide
                have no411 : ∀ (g : Nat → Int32) (t : Nat), t ∉ [384, 405, 411, 412] → va_up s 411 g t = ri t := fun g t ht => by
                  rw [va_up_ne _ _ (fun q => ht (by rw [q]; decide))]; exact so t ht
                have sa4 : ∀ g : Nat → Int32, va_up s 411 g 384 = ri 384 := fun g => by rw [va_up_ne _ _ (show (384 : Nat) ≠ 411 by decide)]; exact sa
                have wr : ∀ v : Int32, 0 ≤ v.toInt → v.toInt ≤ 39 → ri 384 (740 + 12 * v.toNatClampNeg + 3) ≠ 300 → rowP (ri 384) (va_up s 411 (upd (s 411) x.toNatClampNeg v)) (N.toInt + 1) := fun v v0 v1 v2 k hk => by
                  rw [va_up_self]
                  by_cases y : k = x.toNatClampNeg
                  · rw [y, upd_s]; exact ⟨v0, v1, v2⟩
                  · rw [upd_n _ _ y]
                    rcases hs with ⟨a, b⟩ | b
                    · have : x.toInt = N.toInt := by rw [a]
                      exact b k (by omega)
                    · exact b k hk
                have put : ∃ (r1 : Nat → Nat → Int32) (l1 : Nat → Nat → Int64), g_X12_boatsGo_K112 N p (g_X12_boatsGo_L12 m J2 ri q2 I2 hk n) l2 x s = (I2, J2, r1, l1, q2) ∧ (∀ t, t ∉ [384, 405, 411, 412] → r1 t = ri t) ∧ zb (ri 384) (r1 384) := by
                  simp only [g_X12_boatsGo_K112, ↓ap1_n]
                  exact ih _ _ _ _ (by omega) (by omega) (by omega) (by omega) (by rw [eN]; exact wr p p0 (by omega) hpd) (sa4 _) (no411 _)
                rw [g_X12_boatsGo_L65_e]
                simp only [↓ap1_n]
                by_cases d : x ≤ 0
                · rw [if_pos d]; exact put
                · have d1 := Int32.lt_iff_toInt_lt.mp (Int32.not_le.mp d)
                  have em : (x - 1).toInt = x.toInt - 1 := i_sub rfl (show (1 : Int32).toInt = 1 by decide) (by omega) (by omega)
                  generalize x - 1 = xm at em ⊢
                  have ei : (x + Int32.ofInt (-1)).toInt = x.toInt - 1 := i_add (x := x) (y := Int32.ofInt (-1)) rfl (show (Int32.ofInt (-1)).toInt = -1 by decide) (by omega) (by omega)
                  generalize x + Int32.ofInt (-1) = xi at ei ⊢
                  have zm1 := clampE xm
                  rw [if_neg d, bn_p g_X12_goesAhead_f]
                  split
                  · exact put
                  · have hv : 0 ≤ (s 411 xm.toNatClampNeg).toInt ∧ (s 411 xm.toNatClampNeg).toInt ≤ 39 ∧ ri 384 (740 + 12 * (s 411 xm.toNatClampNeg).toNatClampNeg + 3) ≠ 300 := by
                      rcases hs with ⟨a, b⟩ | b
                      · exact b _ (by have : x.toInt = N.toInt := by rw [a]
                                      omega)
                      · exact b _ (by omega)
                    exact iw _ _ (by omega) (by omega) (by omega) (Or.inr (wr _ hv.1 hv.2.1 hv.2.2)) (sa4 _) (no411 _)
            exact ins _ _ _ n0 (Int.le_refl _) (Nat.lt_succ_self _) (Or.inl ⟨rfl, fun k hk => by rw [va_up_ne _ _ (show (411 : Nat) ≠ 412 by decide)]; exact r2p k hk⟩) (by rw [va_up_ne _ _ (show (384 : Nat) ≠ 412 by decide)]; exact r2a) (no412 _ _ r2o)
  have fr : FRG Prod.snd w_X12_keysFor (I, J, ri, rj, rq) (g_X12_keysFor 5 m I J ri rj rq) := g_X12_keysFor_f
  rw [g_X12_boatsGo_e]
  generalize g_X12_keysFor 5 m I J ri rj rq = q at fr ⊢
  obtain ⟨v, I2, J2, r2, l2, q2⟩ := q
  obtain ⟨f1, f2, f3, f4, f5⟩ := fr
  have e2 : J2 = J := funext fun f => f2 f (fun x => by have y : f ∈ ([] : List Nat) := x; cases y)
  have e3 : r2 = ri := funext fun f => f3 f (fun x => by have y : f ∈ ([] : List Nat) := x; cases y)
  have e4 : l2 = rj := funext fun f => f4 f (fun x => by have y : f ∈ ([] : List Nat) := x; cases y)
  have e5 : q2 = rq := funext fun f => f5 f (fun x => by have y : f ∈ ([] : List Nat) := x; cases y)
  simp only [bnI_u]
  obtain ⟨r1, l1, h1, h2, h3⟩ := main I2 v ((40 - (0 : Int32).toInt).toNat + 1) 0 0 ri rj (by decide) (by decide) (by decide) (Nat.lt_succ_self _) (fun k hk => absurd hk (show ¬ (k : Int) < (0 : Int32).toInt by rw [show (0 : Int32).toInt = 0 from by decide]; omega)) rfl (fun _ _ => rfl)
  exact ⟨I2, r1, l1, h1, fun f hf => f1 f (fun x => hf (List.mem_singleton.mp x)), h2, h3⟩
theorem boatsGo_f {m : Int32} (h5 : (ri 384 5).toInt ≤ 40) (h4 : (ri 384 4).toInt ≤ 5) : ∃ (I1 : Nat → Int32) (r1 : Nat → Nat → Int32) (l1 : Nat → Nat → Int64), g_X12_boatsGo m I J ri rj rq = (I1, J, r1, l1, rq) ∧ (∀ f, f ≠ 406 → I1 f = I f) ∧ (∀ t, t ∉ [384, 405, 411, 412] → r1 t = ri t) ∧ zm (ri 384) (r1 384) := by
  obtain ⟨I1, r1, l1, e1, e2, e3, e4⟩ := boatsGo_b (I := I) (J := J) (ri := ri) (rj := rj) (rq := rq) (m := m) h5 h4
  exact ⟨I1, r1, l1, e1, e2, e3, zm_zb e4⟩
end PU8
