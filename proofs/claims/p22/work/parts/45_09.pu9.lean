/-! ===== pure: a month of both sides ===== -/
section PU9
variable {I : Nat → Int32} {J : Nat → Int64} {ri : Nat → Nat → Int32} {rj : Nat → Nat → Int64} {rq : Nat → Nat → Option Nat}
/-- what the class's country is, where nobody has a part in it -/
def rfN (I : Nat → Int32) (ri : Nat → Nat → Int32) : Int32 := if I 234 < ri 231 (tmod (I 320)).toNatClampNeg then -(I 236) else I 235
def lvN (a0 : Int32) (I : Nat → Int32) (ri : Nat → Nat → Int32) : Int32 := kfin (ri 225) (ri 226) (ri 227) (ri 228) a0 (I 320) (I 320) (I 224).toNatClampNeg
def sdN (I : Nat → Int32) (ri : Nat → Nat → Int32) : Nat → Int32 := skS (ri 232 (tmod (I 320)).toNatClampNeg) (ri 79) (ri 75) (ri 73) (I 65).toNatClampNeg
def reN (I : Nat → Int32) (ri : Nat → Nat → Int32) : Nat → Int32 := fun j => if j < (I 65).toNatClampNeg then rfS (rfN I ri) (ri 74 j) else ri 74 j
def dryN (a0 : Int32) (I : Nat → Int32) (ri : Nat → Nat → Int32) (j : Nat) : Bool := decide (j < (I 65).toNatClampNeg ∧ ¬ topS (ri 70) (sdN I ri) (reN I ri) (ri 75) j ≤ lvN a0 I ri + ri 230 (tmod (I 320)).toNatClampNeg)
def rockN (a0 : Int32) (I : Nat → Int32) (ri : Nat → Nat → Int32) (j : Nat) : Bool := decide (j < (I 65).toNatClampNeg ∧ ¬ topS (ri 70) (sdN I ri) (reN I ri) (ri 75) j ≤ lvN a0 I ri + ri 229 (tmod (I 320)).toNatClampNeg)
def undN (a0 : Int32) (I : Nat → Int32) (ri : Nat → Nat → Int32) (j : Nat) : Int32 := if j < (I 65).toNatClampNeg then (if topS (ri 70) (sdN I ri) (reN I ri) (ri 75) j ≤ lvN a0 I ri + ri 230 (tmod (I 320)).toNatClampNeg then ri 77 j + 1 else 0) else ri 77 j
/-- the numbers that a country has at most -/
def RN (I : Nat → Int32) : Prop := (0 ≤ (I 320).toInt ∧ (I 320).toInt ≤ 600) ∧ (0 ≤ (I 65).toInt ∧ (I 65).toInt ≤ 40) ∧ (0 ≤ (I 224).toInt ∧ (I 224).toInt ≤ 200)
theorem nature_w {a0 : Int32} (hN : RN I) (h6 : (I 320).toInt < 600) : ∃ (I1 : Nat → Int32) (J1 : Nat → Int64) (r1 : Nat → Nat → Int32) (l1 : Nat → Nat → Int64), g_X10_nature a0 I J ri rj rq = (I1, J1, r1, l1, rq) ∧ (∀ f, f ≠ 66 → I1 f = I f) ∧ r1 73 = sdN I ri ∧ r1 74 = reN I ri ∧ (∀ t, t ∉ [73, 74, 76, 77, 81] → r1 t = ri t) ∧ (∀ t, t ≠ 68 → l1 t = rj t) ∧ (∀ f, f ≠ 67 → J1 f = J f) ∧ (∀ j, j < 64 → hb (J1 67) j = dryN a0 I ri j) ∧ (∃ k : Int64, l1 68 = vp_updL (rj 68) (I 320).toNatClampNeg k ∧ ∀ j, j < 64 → hb k j = rockN a0 I ri j) ∧ ∀ j, r1 77 j = undN a0 I ri j := by
  obtain ⟨⟨m0, m6⟩, ⟨c0, c4⟩, ⟨l0, l2⟩⟩ := hN
  have tm := tmod_r (m := I 320) m0 (by omega)
  have rest : ∃ (I1 : Nat → Int32) (J1 : Nat → Int64) (r1 : Nat → Nat → Int32) (l1 : Nat → Nat → Int64), g_X10_nature_K77 I J ri rj rq (tmod (I 320)) (lvN a0 I ri) (rfN I ri) = (I1, J1, r1, l1, rq) ∧ (∀ f, f ≠ 66 → I1 f = I f) ∧ r1 73 = sdN I ri ∧ r1 74 = reN I ri ∧ (∀ t, t ∉ [73, 74, 76, 77, 81] → r1 t = ri t) ∧ (∀ t, t ≠ 68 → l1 t = rj t) ∧ (∀ f, f ≠ 67 → J1 f = J f) ∧ (∀ j, j < 64 → hb (J1 67) j = dryN a0 I ri j) ∧ (∃ k : Int64, l1 68 = vp_updL (rj 68) (I 320).toNatClampNeg k ∧ ∀ j, j < 64 → hb k j = rockN a0 I ri j) ∧ ∀ j, r1 77 j = undN a0 I ri j := by
    rw [g_X10_nature_K77_e, growReef_v c0 c4]
    simp only [bnV_u, ↓ap1_n]
    obtain ⟨I1, g, hI, hw⟩ := walk_v (I := I) (J := J) (ri := mapR 74 (fun _ => rfS (rfN I ri)) 0 (I 65).toNatClampNeg ri) (rj := rj) (rq := rq) (a0 := mapR 74 (fun _ => rfS (rfN I ri)) 0 (I 65).toNatClampNeg ri 232 (tmod (I 320)).toNatClampNeg) c0 c4
    rw [hw]
    simp only
    rw [mapR_o (show (232 : Nat) ≠ 74 by decide), mapR_o (show (79 : Nat) ≠ 74 by decide), mapR_o (show (75 : Nat) ≠ 74 by decide), mapR_o (show (73 : Nat) ≠ 74 by decide)]
    generalize hR : va_up (va_up (mapR 74 (fun _ => rfS (rfN I ri)) 0 (I 65).toNatClampNeg ri) 81 g) 73 (skS (ri 232 (tmod (I 320)).toNatClampNeg) (ri 79) (ri 75) (ri 73) (I 65).toNatClampNeg) = R
    have R73 : R 73 = sdN I ri := by rw [← hR, va_up_self]; rfl
    have R74 : R 74 = reN I ri := by
      rw [← hR, va_up_ne _ _ (show (74 : Nat) ≠ 73 by decide), va_up_ne _ _ (show (74 : Nat) ≠ 81 by decide), mapR_t]
      funext j
      unfold reN
      by_cases q : j < (I 65).toNatClampNeg
      · rw [if_pos ⟨Nat.zero_le _, q⟩, if_pos q]
      · rw [if_neg (fun y => q y.2), if_neg q]
    have Ro : ∀ t, t ∉ [73, 74, 81] → R t = ri t := fun t ht => by
      simp only [List.mem_cons, List.not_mem_nil, or_false, not_or] at ht
      rw [← hR, va_up_ne _ _ ht.1, va_up_ne _ _ ht.2.2, mapR_o ht.2.1]
    have I320 : I1 320 = I 320 := hI 320 (by decide)
    have I65 : I1 65 = I 65 := hI 65 (by decide)
    obtain ⟨d, k, u, ht, hd, hk, hu⟩ := tide_v (I := I1) (J := J) (ri := R) (rj := rj) (rq := rq) (m := I1 320) (hi := lvN a0 I ri + R 230 (tmod (I 320)).toNatClampNeg) (lo := lvN a0 I ri + R 229 (tmod (I 320)).toNatClampNeg) (by rw [I65]; exact c0) (by rw [I65]; exact c4) (by rw [I320]; exact m0) (by rw [I320]; exact h6)
    rw [ht]
    simp only
    -- BEDS given up: a row of its own
    have fr : FRG id w_X2_giveUpBeds (I1, va_up J 67 d, va_up R 77 u, va_up rj 68 (vp_updL (rj 68) (I1 320).toNatClampNeg k), rq) (g_X2_giveUpBeds I1 (va_up J 67 d) (va_up R 77 u) (va_up rj 68 (vp_updL (rj 68) (I1 320).toNatClampNeg k)) rq) := g_X2_giveUpBeds_f
    generalize g_X2_giveUpBeds I1 (va_up J 67 d) (va_up R 77 u) (va_up rj 68 (vp_updL (rj 68) (I1 320).toNatClampNeg k)) rq = q at fr ⊢
    obtain ⟨I2, J2, r2, l2, q2⟩ := q
    obtain ⟨f1, f2, f3, f4, f5⟩ := fr
    have g3 : ∀ t, t ≠ 76 → r2 t = va_up R 77 u t := fun t ht => f3 t (fun x => ht (List.mem_singleton.mp x))
    have g1 : ∀ f, I2 f = I1 f := fun f => f1 f (fun x => by have y : f ∈ ([] : List Nat) := x; cases y)
    have g2 : ∀ f, J2 f = va_up J 67 d f := fun f => f2 f (fun x => by have y : f ∈ ([] : List Nat) := x; cases y)
    have g4 : ∀ t, l2 t = va_up rj 68 (vp_updL (rj 68) (I1 320).toNatClampNeg k) t := fun f => f4 f (fun x => by have y : f ∈ ([] : List Nat) := x; cases y)
    have g5 : q2 = rq := funext fun f => f5 f (fun x => by have y : f ∈ ([] : List Nat) := x; cases y)
    refine ⟨I2, J2, r2, l2, by rw [g5, show I2 = I1 from funext g1, show J2 = va_up J 67 d from funext g2, show l2 = va_up rj 68 (vp_updL (rj 68) (I1 320).toNatClampNeg k) from funext g4], fun f hf => (g1 f).trans (hI f hf), ?_, ?_, fun t ht => ?_, fun t ht => ?_, fun f hf => ?_, fun j hj => ?_, ⟨k, ?_, fun j hj => ?_⟩, fun j => ?_⟩
    · rw [g3 73 (by decide), va_up_ne _ _ (show (73 : Nat) ≠ 77 by decide)]; exact R73
    · rw [g3 74 (by decide), va_up_ne _ _ (show (74 : Nat) ≠ 77 by decide)]; exact R74
    · simp only [List.mem_cons, List.not_mem_nil, or_false, not_or] at ht
      rw [g3 t ht.2.2.1, va_up_ne _ _ ht.2.2.2.1]
      exact Ro t (by simp only [List.mem_cons, List.not_mem_nil, or_false, not_or]; exact ⟨ht.1, ht.2.1, ht.2.2.2.2⟩)
    · rw [g4, va_up_ne _ _ ht]
    · rw [g2, va_up_ne _ _ hf]
    · rw [g2, va_up_self, hd j hj, I65, R73, R74, Ro 70 (by decide), Ro 75 (by decide), Ro 230 (by decide)]
      rfl
    · rw [g4, va_up_self, I320]
    · rw [hk j hj, I65, R73, R74, Ro 70 (by decide), Ro 75 (by decide), Ro 229 (by decide)]
      rfl
    · rw [g3 77 (by decide), va_up_self, hu j, I65, R73, R74, Ro 70 (by decide), Ro 75 (by decide), Ro 230 (by decide), Ro 77 (by decide)]
      rfl
  have k6 : (600 : Int32).toInt = 600 := by decide
  rw [g_X10_nature_e]
  simp only [↓ap1_n]
  rw [if_pos (Int32.lt_iff_toInt_lt.mpr (by omega)), known_v m0 (by omega) l0 l2]
  simp only [bnI_u]
  by_cases q : I 234 < ri 231 (I 320 - I 320 / 12 * 12).toNatClampNeg
  · rw [if_pos q]
    have e : rfN I ri = -(I 236) := if_pos q
    rw [e] at rest
    exact rest
  · rw [if_neg q]
    have e : rfN I ri = I 235 := if_neg q
    rw [e] at rest
    exact rest
theorem nature_v {a0 : Int32} (hN : RN I) (h6 : (I 320).toInt < 600) : ∃ (I1 : Nat → Int32) (J1 : Nat → Int64) (r1 : Nat → Nat → Int32) (l1 : Nat → Nat → Int64), g_X10_nature a0 I J ri rj rq = (I1, J1, r1, l1, rq) ∧ (∀ f, f ≠ 66 → I1 f = I f) ∧ r1 73 = sdN I ri ∧ r1 74 = reN I ri ∧ (∀ t, t ∉ [73, 74, 76, 77, 81] → r1 t = ri t) ∧ (∀ t, t ≠ 68 → l1 t = rj t) ∧ (∀ f, f ≠ 67 → J1 f = J f) ∧ ∀ j, j < 64 → hb (J1 67) j = dryN a0 I ri j := by
  obtain ⟨I1, J1, r1, l1, e1, e2, e3, e4, e5, e6, e7, e8, _⟩ := nature_w (I := I) (J := J) (ri := ri) (rj := rj) (rq := rq) (a0 := a0) hN h6
  exact ⟨I1, J1, r1, l1, e1, e2, e3, e4, e5, e6, e7, e8⟩
end PU9
