/-! ===== pure: REEF and SAND of the reference ===== -/
section PU2
variable {I : Nat → Int32} {J : Nat → Int64} {ri : Nat → Nat → Int32} {rj : Nat → Nat → Int64} {rq : Nat → Nat → Option Nat}
/-- a row of the reference's area: every S-th place from b on -/
def zo (k : Nat) (f g : Nat → Int32) : Prop := ∀ i, (∀ c, c < 40 → i ≠ 100 + 16 * c + k) → g i = f i
theorem zo_rf {k : Nat} {f : Nat → Int32} : zo k f f := fun _ _ => rfl
theorem zo_tr {k : Nat} {f g h : Nat → Int32} (a : zo k f g) (b : zo k g h) : zo k f h := fun i hi => (b i hi).trans (a i hi)
theorem zo_st {k c : Nat} {f : Nat → Int32} {v : Int32} (hc : c < 40) : zo k f (upd f (100 + 16 * c + k) v) := fun i hi => upd_n _ _ (hi c hc)
theorem rfS_m {m x : Int32} : (if x + m ≤ 400 then (if 0 ≤ x + m then x + m else 0) else 400) = rfS m x := by
  have h4 : (400 : Int32).toInt = 400 := by decide
  have h0 : (0 : Int32).toInt = 0 := by decide
  unfold rfS
  apply Int32.toInt_inj.mp
  by_cases a : x + m ≤ 400
  · rw [if_pos a]
    have a1 := Int32.le_iff_toInt_le.mp a
    by_cases b : x + m < 400
    · have b1 := Int32.lt_iff_toInt_lt.mp b
      rw [if_pos b]
      by_cases c : 0 ≤ x + m
      · have c1 := Int32.le_iff_toInt_le.mp c
        rw [if_pos c]
        by_cases d : 0 < x + m
        · rw [if_pos d]
        · have d1 := Int32.le_iff_toInt_le.mp (Int32.not_lt.mp d)
          rw [if_neg d]; omega
      · have c1 := Int32.lt_iff_toInt_lt.mp (Int32.not_le.mp c)
        rw [if_neg c, if_neg (fun d => by have d1 := Int32.lt_iff_toInt_lt.mp d; omega)]
    · have b1 := Int32.le_iff_toInt_le.mp (Int32.not_lt.mp b)
      rw [if_neg b, if_pos (show (0 : Int32) < 400 by decide), if_pos (Int32.le_iff_toInt_le.mpr (by omega))]
      omega
  · have a1 := Int32.lt_iff_toInt_lt.mp (Int32.not_le.mp a)
    rw [if_neg a, if_neg (show ¬ x + m < 400 from fun b => by have b1 := Int32.lt_iff_toInt_lt.mp b; omega), if_pos (show (0 : Int32) < 400 by decide)]
/-- what comes to a REEF in a month -/
def rfm (A : Nat → Int32) (t : Nat) : Int32 := if A 13 < A (20 + 5 * t + 2) then -(A 15) else A 14
def tmod (m : Int32) : Int32 := m - m / 12 * 12
theorem tmod_r {m : Int32} (h0 : 0 ≤ m.toInt) (h1 : m.toInt ≤ 2147483647) : 0 ≤ (tmod m).toInt ∧ (tmod m).toInt ≤ 11 := by
  have h := rg_rem (x := m) (k := 12) (a := 0) (b := 2147483647) (n := 12) (lo := 0) (hi := 11) ⟨h0, h1⟩ rfl (by decide)
  exact h
theorem bnI_at {α β : Type} {p : α × vM} {v : α} {I : Nat → Int32} {J : Nat → Int64} {ri : Nat → Nat → Int32} {rj : Nat → Nat → Int64} {rq : Nat → Nat → Option Nat} {k : α → (Nat → Int32) → (Nat → Int64) → (Nat → Nat → Int32) → (Nat → Nat → Int64) → (Nat → Nat → Option Nat) → β} (e : p = (v, I, J, ri, rj, rq)) : bnI p k = k v I J ri rj rq := by rw [e]; rfl
theorem tableAt_2 {m : Int32} : g_X12_tableAt_c2 m I J ri rj rq = (ri 384 ((20 : Int32) + (5 : Int32) * tmod m + 2).toNatClampNeg, I, J, ri, rj, rq) := by
  rw [g_X12_tableAt_c2_e]
  simp only [↓ap1_n, tmod]
set_option maxRecDepth 100000 in
theorem reefGoes_v {m : Int32} (hm0 : 0 ≤ m.toInt) (hm1 : m.toInt ≤ 600) (h0 : 0 ≤ (ri 384 2).toInt) (h40 : (ri 384 2).toInt ≤ 40) : ∃ A : Nat → Int32, g_X12_reefGoes m I J ri rj rq = (I, J, va_up ri 384 A, rj, rq) ∧ zo 5 (ri 384) A ∧ ∀ c, c < 40 → A (100 + 16 * c + 5) = if c < (ri 384 2).toNatClampNeg then rfS (rfm (ri 384) (tmod m).toNatClampNeg) (ri 384 (100 + 16 * c + 5)) else ri 384 (100 + 16 * c + 5) := by
  have go : ∀ (n : Nat) (x : Int32) (A : Nat → Int32), 0 ≤ x.toInt → x.toInt ≤ (ri 384 2).toInt → (40 - x.toInt).toNat < n → zo 5 (ri 384) A → ∃ B : Nat → Int32, g_X12_reefGoes_L2 m I J ri rj rq n x (va_up ri 384 A) = (I, J, va_up ri 384 B, rj, rq) ∧ zo 5 A B ∧ ∀ c, c < 40 → B (100 + 16 * c + 5) = if x.toNatClampNeg ≤ c ∧ c < (ri 384 2).toNatClampNeg then rfS (rfm (ri 384) (tmod m).toNatClampNeg) (A (100 + 16 * c + 5)) else A (100 + 16 * c + 5) := by
    intro n
    induction n with
    | zero => intro x A _ _ h; exact absurd h (Nat.not_lt_zero _)
    | succ n ih =>
      intro x A h1 h2 h3 hA
      have z1 := clampE x
      have z2 := clampE (ri 384 2)
      rw [g_X12_reefGoes_L2_e]
      simp only [↓ap1_n]
      rw [bnI_at tableAt_2]
      simp only [va_up_self]
      by_cases c : ri 384 2 ≤ x
      · have c1 := Int32.le_iff_toInt_le.mp c
        rw [if_pos c]
        exact ⟨A, rfl, zo_rf, fun c _ => (if_neg (by omega)).symm⟩
      · have c1 := Int32.lt_iff_toInt_lt.mp (Int32.not_le.mp c)
        have e := t1_inc (x := x) (by omega) (by omega)
        have z3 := clampE (x + Int32.ofInt 1)
        have hx1 : (x + Int32.ofInt 1).toNatClampNeg = x.toNatClampNeg + 1 := by omega
        have i5 := ixk (c := x) (k := 5) 5 (by decide) (by decide) h1 (by omega)
        have tm := tmod_r hm0 (by omega)
        have i2 := ixt (x := tmod m) (k := 2) 2 (by decide) (by decide) tm.1 tm.2
        have ztq := clampE (tmod m)
        rw [if_neg c, i2, i5]
        have f13 : A (13 : Int32).toNatClampNeg = ri 384 13 := by rw [show (13 : Int32).toNatClampNeg = 13 from by decide]; exact hA 13 (fun c _ => by omega)
        have f14 : A (14 : Int32).toNatClampNeg = ri 384 14 := by rw [show (14 : Int32).toNatClampNeg = 14 from by decide]; exact hA 14 (fun c _ => by omega)
        have f15 : A (15 : Int32).toNatClampNeg = ri 384 15 := by rw [show (15 : Int32).toNatClampNeg = 15 from by decide]; exact hA 15 (fun c _ => by omega)
        have f2 : A (20 + 5 * (tmod m).toNatClampNeg + 2) = ri 384 (20 + 5 * (tmod m).toNatClampNeg + 2) := hA _ (fun c _ => by omega)
        rw [f13, f14, f15, f2]
        -- one step
        have key : ∀ v : Int32, v = rfm (ri 384) (tmod m).toNatClampNeg → ∃ B : Nat → Int32, g_X12_reefGoes_K63 x (va_up ri 384 A) (g_X12_reefGoes_L2 m I J ri rj rq n) ((100 : Int32) + (16 : Int32) * x + 5) (A (100 + 16 * x.toNatClampNeg + 5)) v = (I, J, va_up ri 384 B, rj, rq) ∧ zo 5 A B ∧ ∀ c, c < 40 → B (100 + 16 * c + 5) = if x.toNatClampNeg ≤ c ∧ c < (ri 384 2).toNatClampNeg then rfS (rfm (ri 384) (tmod m).toNatClampNeg) (A (100 + 16 * c + 5)) else A (100 + 16 * c + 5) := by
          intro v hv
          have leaf : ∀ w : Int32, w = rfS v (A (100 + 16 * x.toNatClampNeg + 5)) → ∃ B : Nat → Int32, g_X12_reefGoes_L2 m I J ri rj rq n (x + Int32.ofInt 1) (va_up ri 384 (upd A (100 + 16 * x.toNatClampNeg + 5) w)) = (I, J, va_up ri 384 B, rj, rq) ∧ zo 5 A B ∧ ∀ c, c < 40 → B (100 + 16 * c + 5) = if x.toNatClampNeg ≤ c ∧ c < (ri 384 2).toNatClampNeg then rfS (rfm (ri 384) (tmod m).toNatClampNeg) (A (100 + 16 * c + 5)) else A (100 + 16 * c + 5) := by
            intro w hw
            have hz : zo 5 A (upd A (100 + 16 * x.toNatClampNeg + 5) w) := zo_st (by omega)
            obtain ⟨B, b1, b2, b3⟩ := ih (x + Int32.ofInt 1) (upd A (100 + 16 * x.toNatClampNeg + 5) w) (by omega) (by omega) (by omega) (zo_tr hA hz)
            refine ⟨B, b1, zo_tr hz b2, fun c hc => ?_⟩
            rw [b3 c hc, hx1]
            by_cases q : c = x.toNatClampNeg
            · subst q
              rw [if_neg (by omega), if_pos (by omega), upd_s, hw, hv]
            · rw [upd_n _ _ (by omega)]
              by_cases q2 : x.toNatClampNeg + 1 ≤ c ∧ c < (ri 384 2).toNatClampNeg
              · rw [if_pos q2, if_pos (by omega)]
              · rw [if_neg q2, if_neg (by omega)]
          have hm := rfS_m (m := v) (x := A (100 + 16 * x.toNatClampNeg + 5))
          simp only [g_X12_reefGoes_K63, g_X12_reefGoes_K86, g_X12_reefGoes_K102, ↓ap1_n, i5, va_up_self, up_up, upd_s, upd_upd]
          by_cases d : A (100 + 16 * x.toNatClampNeg + 5) + v ≤ 400
          · rw [if_pos d] at hm
            rw [if_pos d]
            by_cases d2 : 0 ≤ A (100 + 16 * x.toNatClampNeg + 5) + v
            · rw [if_pos d2] at hm
              rw [if_pos d2]
              exact leaf _ hm
            · rw [if_neg d2] at hm
              rw [if_neg d2]
              exact leaf _ hm
          · rw [if_neg d] at hm
            rw [if_neg d, if_pos (show (0 : Int32) ≤ 400 by decide)]
            exact leaf _ hm
        by_cases d : ri 384 13 < ri 384 (20 + 5 * (tmod m).toNatClampNeg + 2)
        · rw [if_pos d]
          exact key _ (by unfold rfm; rw [if_pos d])
        · rw [if_neg d]
          exact key _ (by unfold rfm; rw [if_neg d])
  rw [g_X12_reefGoes_e]
  have h := go ((40 - (0 : Int32).toInt).toNat + 1) 0 (ri 384) (by decide) h0 (Nat.lt_succ_self _) zo_rf
  rw [up_id] at h
  obtain ⟨B, b1, b2, b3⟩ := h
  exact ⟨B, b1, b2, fun c hc => by rw [b3 c hc]; have z : (0 : Int32).toNatClampNeg = 0 := by decide
                                   rw [z]; by_cases q : c < (ri 384 2).toNatClampNeg
                                   · rw [if_pos ⟨Nat.zero_le _, q⟩, if_pos q]
                                   · rw [if_neg (fun y => q y.2), if_neg q]⟩
end PU2
