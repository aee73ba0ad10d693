/-! ===== pure: the MONTH whose ROCKS count (FIX), both sides (behind px) ===== -/
section PZ
variable {I : Nat → Int32} {J : Nat → Int64} {ri : Nat → Nat → Int32} {rj : Nat → Nat → Int64} {rq : Nat → Nat → Option Nat}
variable {U : Nat → Int32} {V : Nat → Int64} {si : Nat → Nat → Int32} {sj : Nat → Nat → Int64} {sq : Nat → Nat → Option Nat}
variable {tI : Nat → Nat → Int32} {tR : Nat → Nat → Nat → Int32}
def mth (mo y : Int32) : Int32 := if y < 0 then mo else if mo ≤ y then mo else y
theorem fx_m {mo : Int32} (hT : TXS I rq tI tR (si 384)) (hF : FCS I ri (si 384)) : ∃ y : Int32, g_X3_fixIn tI tR mo I J ri rj rq = (y, I, J, ri, rj, rq) ∧ g_X12_areaOf mo U V si sj sq = g_X12_areaOf_K23 U V si sj sq (mth mo y) := by
  obtain ⟨y, e1, e2⟩ := num_in (I := I) (J := J) (ri := ri) (rj := rj) (rq := rq) (U := U) (V := V) (si := si) (sj := sj) (sq := sq) (tI := tI) (tR := tR) (a := 7) (mo := mo) (d := -1) (by decide) (by decide) hT hF
  have s8 : (8 : Int32) = srC 7 := by decide
  refine ⟨y, ?_, ?_⟩
  · rw [g_X3_fixIn_e, bn_n e1]
  · rw [g_X12_areaOf_e, s8, bn_n e2]
    unfold mth
    by_cases q : y < 0
    · rw [if_pos q, if_pos q]; rfl
    · rw [if_neg q, if_neg q]
      by_cases q2 : mo ≤ y
      · rw [if_pos q2, if_pos q2]; rfl
      · rw [if_neg q2, if_neg q2]
theorem lv_m {mo : Int32} (hT : TXS I rq tI tR (si 384)) (hF : FCS I ri (si 384)) : ∃ y : Int32, g_X3_leaveIn tI tR mo I J ri rj rq = (y, I, J, ri, rj, rq) ∧ g_X12_numberOf 9 mo 10 U V si sj sq = (y, U, V, si, sj, sq) := by
  obtain ⟨y, e1, e2⟩ := num_in (I := I) (J := J) (ri := ri) (rj := rj) (rq := rq) (U := U) (V := V) (si := si) (sj := sj) (sq := sq) (tI := tI) (tR := tR) (a := 8) (mo := mo) (d := 10) (by decide) (by decide) hT hF
  have s9 : (9 : Int32) = srC 8 := by decide
  refine ⟨y, ?_, ?_⟩
  · rw [g_X3_leaveIn_e, bn_n e1]
  · rw [s9]; exact e2
end PZ
