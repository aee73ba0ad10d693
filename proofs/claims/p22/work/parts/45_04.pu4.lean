/-! ===== pure: bits; the tides ===== -/
section PU4
variable {I : Nat → Int32} {J : Nat → Int64} {ri : Nat → Nat → Int32} {rj : Nat → Nat → Int64} {rq : Nat → Nat → Option Nat}
def hb (x : Int64) (c : Nat) : Bool := x.toBitVec.getLsbD c
theorem toN {x : Int32} (h0 : 0 ≤ x.toInt) : x = nI x.toNatClampNeg := Int32.toInt_inj.mp (by
  have z := clampE x
  have l := x.toInt_lt
  rw [nI_toInt (n := x.toNatClampNeg) (by omega)]
  omega)
theorem cmp0 (x : Int64) : lg_cmp x 0 = 0 ↔ x = 0 := by
  unfold lg_cmp
  by_cases a : x > 0
  · rw [if_pos a]
    exact ⟨fun h => absurd h (by decide), fun h => by rw [h] at a; exact absurd a (by decide)⟩
  · by_cases b : x = 0
    · rw [if_neg a, if_pos b]; exact ⟨fun _ => b, fun _ => rfl⟩
    · rw [if_neg a, if_neg b]; exact ⟨fun h => absurd h (by decide), fun h => absurd h b⟩
theorem hasBit_v {s : Int64} {c : Int32} (h0 : 0 ≤ c.toInt) (h1 : c.toInt ≤ 63) : g_X11_hasBit s c = if hb s c.toNatClampNeg = true then 1 else 0 := by
  have z := clampE c
  have hk : c.toNatClampNeg < 64 := by omega
  have hs : (c.toInt64.toUInt64 &&& Int64.toUInt64 63).toNat = c.toNatClampNeg := by
    have e := wb_cu c.toNatClampNeg hk
    rw [← toN h0] at e
    rw [e]
    exact u_tn (by omega)
  have t := ts_bit (w := s) hk hs
  rw [g_X11_hasBit_e]
  simp only [↓ap1_n]
  by_cases b : s.toBitVec.getLsbD c.toNatClampNeg = true
  · rw [if_neg (fun q => by rw [t.mp ((cmp0 _).mp q)] at b; exact absurd b (by decide)), if_pos (show hb s c.toNatClampNeg = true from b)]
  · have b2 : s.toBitVec.getLsbD c.toNatClampNeg = false := by simpa using b
    rw [if_pos ((cmp0 _).mpr (t.mpr b2)), if_neg (show ¬ hb s c.toNatClampNeg = true from b)]
theorem hb_one {c : Int32} (h0 : 0 ≤ c.toInt) (h1 : c.toInt ≤ 63) (j : Nat) (hj : j < 64) : hb ((1 : Int64) <<< (c.toInt64 &&& 63)) j = decide (c.toNatClampNeg = j) := by
  have z := clampE c
  have hk : c.toNatClampNeg < 64 := by omega
  have e := wb_shl 1 hk
  rw [← toN h0] at e
  have e1 : (1 : Int64) = lN 1 := fa_litL 1
  rw [e1, e, Nat.one_mul]
  show (BitVec.ofNat 64 (2 ^ c.toNatClampNeg)).getLsbD j = _
  rw [BitVec.getLsbD_ofNat, Nat.testBit_two_pow, decide_eq_true hj, Bool.true_and]
theorem hb_or {s : Int64} {c : Int32} (h0 : 0 ≤ c.toInt) (h1 : c.toInt ≤ 63) (j : Nat) (hj : j < 64) : hb (s ||| ((1 : Int64) <<< (c.toInt64 &&& 63))) j = (hb s j || decide (c.toNatClampNeg = j)) := by
  rw [← hb_one h0 h1 j hj]
  unfold hb
  rw [Int64.toBitVec_or, BitVec.getLsbD_or]
theorem hb_0 (j : Nat) : hb 0 j = false := by
  unfold hb
  show (0#64).getLsbD j = false
  exact BitVec.getLsbD_zero
def topS (h s r w : Nat → Int32) (c : Nat) : Int32 := h c + s c + r c / 4 + w c
theorem topOf_v {x : Int32} : g_X2_topOf x I J ri rj rq = (topS (ri 70) (ri 73) (ri 74) (ri 75) x.toNatClampNeg, I, J, ri, rj, rq) := rfl
theorem isDry_v {x : Int32} : g_X2_isDry x I J ri rj rq = (g_X11_hasBit (J 67) x, I, J, ri, rj, rq) := rfl
/-- the tides of the class: who is DRY, UNDER, the ROCKS of the month -/
theorem tide_v {m hi lo : Int32} (h0 : 0 ≤ (I 65).toInt) (h40 : (I 65).toInt ≤ 40) (hm0 : 0 ≤ m.toInt) (hm1 : m.toInt < 600) : ∃ (d k : Int64) (u : Nat → Int32), g_X2_tide m hi lo I J ri rj rq = (I, va_up J 67 d, va_up ri 77 u, va_up rj 68 (vp_updL (rj 68) m.toNatClampNeg k), rq) ∧ (∀ j, j < 64 → hb d j = decide (j < (I 65).toNatClampNeg ∧ ¬ topS (ri 70) (ri 73) (ri 74) (ri 75) j ≤ hi)) ∧ (∀ j, j < 64 → hb k j = decide (j < (I 65).toNatClampNeg ∧ ¬ topS (ri 70) (ri 73) (ri 74) (ri 75) j ≤ lo)) ∧ ∀ j, u j = if j < (I 65).toNatClampNeg then (if topS (ri 70) (ri 73) (ri 74) (ri 75) j ≤ hi then ri 77 j + 1 else 0) else ri 77 j := by
  have zN := clampE (I 65)
  have go : ∀ (n : Nat) (k : Int64) (x : Int32) (d : Int64) (u : Nat → Int32), 0 ≤ x.toInt → x.toInt ≤ (I 65).toInt → (40 - x.toInt).toNat < n → (∀ j, j < 64 → hb d j = decide (j < x.toNatClampNeg ∧ ¬ topS (ri 70) (ri 73) (ri 74) (ri 75) j ≤ hi)) → (∀ j, j < 64 → hb k j = decide (j < x.toNatClampNeg ∧ ¬ topS (ri 70) (ri 73) (ri 74) (ri 75) j ≤ lo)) → (∀ j, u j = if j < x.toNatClampNeg then (if topS (ri 70) (ri 73) (ri 74) (ri 75) j ≤ hi then ri 77 j + 1 else 0) else ri 77 j) → ∃ (d2 k2 : Int64) (u2 : Nat → Int32), g_X2_tide_L11 m hi lo I rj rq n k x (va_up J 67 d) (va_up ri 77 u) = (I, va_up J 67 d2, va_up ri 77 u2, va_up rj 68 (vp_updL (rj 68) m.toNatClampNeg k2), rq) ∧ (∀ j, j < 64 → hb d2 j = decide (j < (I 65).toNatClampNeg ∧ ¬ topS (ri 70) (ri 73) (ri 74) (ri 75) j ≤ hi)) ∧ (∀ j, j < 64 → hb k2 j = decide (j < (I 65).toNatClampNeg ∧ ¬ topS (ri 70) (ri 73) (ri 74) (ri 75) j ≤ lo)) ∧ ∀ j, u2 j = if j < (I 65).toNatClampNeg then (if topS (ri 70) (ri 73) (ri 74) (ri 75) j ≤ hi then ri 77 j + 1 else 0) else ri 77 j := by
    intro n
    induction n with
    | zero => intro k x d u _ _ h; exact absurd h (Nat.not_lt_zero _)
    | succ n ih =>
      intro k x d u h1 h2 h3 hd hk hu
      have zx := clampE x
      rw [g_X2_tide_L11_e]
      simp only [↓ap1_n, bnI_u, topOf_v, va_up_ne _ _ (show (70 : Nat) ≠ 77 by decide), va_up_ne _ _ (show (73 : Nat) ≠ 77 by decide), va_up_ne _ _ (show (74 : Nat) ≠ 77 by decide), va_up_ne _ _ (show (75 : Nat) ≠ 77 by decide)]
      by_cases c : I 65 ≤ x
      · have c1 := Int32.le_iff_toInt_le.mp c
        have ex : x.toNatClampNeg = (I 65).toNatClampNeg := by omega
        have k0 : (0 : Int32).toInt = 0 := by decide
        have k6 : (600 : Int32).toInt = 600 := by decide
        rw [if_pos c, if_neg (fun q => by have q1 := Int32.lt_iff_toInt_lt.mp q; omega), if_neg (fun q => by have q1 := Int32.le_iff_toInt_le.mp q; omega)]
        rw [ex] at hd hk hu
        exact ⟨d, k, u, rfl, hd, hk, hu⟩
      · have c1 := Int32.lt_iff_toInt_lt.mp (Int32.not_le.mp c)
        have e := t1_inc (x := x) (by omega) (by omega)
        have z3 := clampE (x + Int32.ofInt 1)
        have hx1 : (x + Int32.ofInt 1).toNatClampNeg = x.toNatClampNeg + 1 := by omega
        rw [if_neg c]
        generalize hT : topS (ri 70) (ri 73) (ri 74) (ri 75) = T at hd hk hu ih ⊢
        -- the ROCKS so far
        have hk1 : ∀ k1 : Int64, (k1 = if T x.toNatClampNeg ≤ lo then k else k ||| ((1 : Int64) <<< (x.toInt64 &&& 63))) → ∀ j, j < 64 → hb k1 j = decide (j < x.toNatClampNeg + 1 ∧ ¬ T j ≤ lo) := fun k1 e1 j hj => by
          rw [e1]
          by_cases q : T x.toNatClampNeg ≤ lo
          · rw [if_pos q, hk j hj]
            by_cases w : j = x.toNatClampNeg
            · subst w; rw [decide_eq_false (fun y => absurd y.1 (Nat.lt_irrefl _)), decide_eq_false (fun y => y.2 q)]
            · exact decide_eq_decide.mpr ⟨fun y => ⟨by omega, y.2⟩, fun y => ⟨by omega, y.2⟩⟩
          · rw [if_neg q, hb_or h1 (by omega) j hj, hk j hj]
            by_cases w : j = x.toNatClampNeg
            · subst w; rw [decide_eq_true (rfl : x.toNatClampNeg = x.toNatClampNeg), Bool.or_true, decide_eq_true ⟨Nat.lt_succ_self _, q⟩]
            · rw [decide_eq_false (show ¬ x.toNatClampNeg = j from fun y => w y.symm), Bool.or_false]
              exact decide_eq_decide.mpr ⟨fun y => ⟨by omega, y.2⟩, fun y => ⟨by omega, y.2⟩⟩
        have step : ∀ k1 : Int64, (∀ j, j < 64 → hb k1 j = decide (j < x.toNatClampNeg + 1 ∧ ¬ T j ≤ lo)) → ∃ (d2 k2 : Int64) (u2 : Nat → Int32), g_X2_tide_K43 hi x (va_up J 67 d) (va_up ri 77 u) (g_X2_tide_L11 m hi lo I rj rq n) (T x.toNatClampNeg) k1 = (I, va_up J 67 d2, va_up ri 77 u2, va_up rj 68 (vp_updL (rj 68) m.toNatClampNeg k2), rq) ∧ (∀ j, j < 64 → hb d2 j = decide (j < (I 65).toNatClampNeg ∧ ¬ T j ≤ hi)) ∧ (∀ j, j < 64 → hb k2 j = decide (j < (I 65).toNatClampNeg ∧ ¬ T j ≤ lo)) ∧ ∀ j, u2 j = if j < (I 65).toNatClampNeg then (if T j ≤ hi then ri 77 j + 1 else 0) else ri 77 j := fun k1 hk2 => by
          simp only [g_X2_tide_K43, g_X2_tide_K84, ↓ap1_n, va_up_self, up_up]
          by_cases q : T x.toNatClampNeg ≤ hi
          · rw [if_pos q]
            refine ih _ _ _ _ (by omega) (by omega) (by omega) (fun j hj => ?_) (by rw [hx1]; exact hk2) (fun j => ?_)
            · rw [hd j hj, hx1]
              by_cases w : j = x.toNatClampNeg
              · subst w; rw [decide_eq_false (fun y => absurd y.1 (Nat.lt_irrefl _)), decide_eq_false (fun y => y.2 q)]
              · exact decide_eq_decide.mpr ⟨fun y => ⟨by omega, y.2⟩, fun y => ⟨by omega, y.2⟩⟩
            · rw [hx1]
              by_cases w : j = x.toNatClampNeg
              · subst w; rw [upd_s, if_pos (Nat.lt_succ_self _), if_pos q, hu, if_neg (Nat.lt_irrefl _)]
              · rw [upd_n _ _ w, hu]
                by_cases w2 : j < x.toNatClampNeg
                · rw [if_pos w2, if_pos (show j < x.toNatClampNeg + 1 by omega)]
                · rw [if_neg w2, if_neg (show ¬ j < x.toNatClampNeg + 1 by omega)]
          · rw [if_neg q]
            refine ih _ _ _ _ (by omega) (by omega) (by omega) (fun j hj => ?_) (by rw [hx1]; exact hk2) (fun j => ?_)
            · rw [hb_or h1 (by omega) j hj, hd j hj, hx1]
              by_cases w : j = x.toNatClampNeg
              · subst w; rw [decide_eq_true (rfl : x.toNatClampNeg = x.toNatClampNeg), Bool.or_true, decide_eq_true ⟨Nat.lt_succ_self _, q⟩]
              · rw [decide_eq_false (show ¬ x.toNatClampNeg = j from fun y => w y.symm), Bool.or_false]
                exact decide_eq_decide.mpr ⟨fun y => ⟨by omega, y.2⟩, fun y => ⟨by omega, y.2⟩⟩
            · rw [hx1]
              by_cases w : j = x.toNatClampNeg
              · subst w; rw [upd_s, if_pos (Nat.lt_succ_self _), if_neg q]
              · rw [upd_n _ _ w, hu]
                by_cases w2 : j < x.toNatClampNeg
                · rw [if_pos w2, if_pos (show j < x.toNatClampNeg + 1 by omega)]
                · rw [if_neg w2, if_neg (show ¬ j < x.toNatClampNeg + 1 by omega)]
        by_cases q : T x.toNatClampNeg ≤ lo
        · rw [if_pos q]
          exact step _ (hk1 _ (if_pos q).symm)
        · rw [if_neg q]
          exact step _ (hk1 _ (if_neg q).symm)
  rw [g_X2_tide_e]
  simp only [↓ap1_n]
  have h := go ((40 - (0 : Int32).toInt).toNat + 1) 0 0 0 (ri 77) (by decide) h0 (Nat.lt_succ_self _) (fun j _ => by rw [hb_0]; exact (decide_eq_false (fun y => absurd y.1 (by rw [show (0 : Int32).toNatClampNeg = 0 from by decide]; exact Nat.not_lt_zero _))).symm) (fun j _ => by rw [hb_0]; exact (decide_eq_false (fun y => absurd y.1 (by rw [show (0 : Int32).toNatClampNeg = 0 from by decide]; exact Nat.not_lt_zero _))).symm) (fun j => (if_neg (by rw [show (0 : Int32).toNatClampNeg = 0 from by decide]; exact Nat.not_lt_zero _)).symm)
  rw [up_id] at h
  exact h
end PU4
