/-! ===== pure: LEVEL OF, the same on both sides ===== -/
section PU18
variable {I : Nat → Int32} {J : Nat → Int64} {ri : Nat → Nat → Int32} {rj : Nat → Nat → Int64} {rq : Nat → Nat → Option Nat}
variable {U : Nat → Int32} {V : Nat → Int64} {si : Nat → Nat → Int32} {sj : Nat → Nat → Int64} {sq : Nat → Nat → Option Nat}
theorem levelOf_v {a0 a1 a2 : Int32} (h : RSL I ri (si 384)) : (g_X11_levelOf a0 a1 a2 I J ri rj rq).1 = (g_X12_levelOf a0 a1 a2 U V si sj sq).1 := by
  obtain ⟨⟨_, _, ⟨l0, l2⟩⟩, _, ⟨_, _, _, e3⟩, hlv, _⟩ := h
  rw [g_X11_levelOf_e, g_X12_levelOf_e]
  simp only [↓ap1_n, between_b, isIn_b, isRise_c, isRise_m, isMonth_c, isMonth_m]
  by_cases q1 : bt a0 0 2 = 0
  · rw [if_pos q1, if_pos q1]
    rfl
  · rw [if_neg q1, if_neg q1]
    by_cases q2 : bt a1 0 599 = 0
    · rw [if_pos q2, if_pos q2]
      rfl
    · rw [if_neg q2, if_neg q2]
      by_cases q3 : bt a2 0 600 = 0
      · rw [if_pos q3, if_pos q3]
        rfl
      · rw [if_neg q3, if_neg q3]
        have b2 := bt_n q2
        have k0 : (0 : Int32).toInt = 0 := by decide
        have k599 : (599 : Int32).toInt = 599 := by decide
        rw [known_v (by omega) (by omega) l0 l2, levelAt_v (by rw [← e3]; exact l0) (by rw [← e3]; exact l2), bnI_mk, bnI_mk, ← e3]
        exact fin_eq hlv
end PU18
