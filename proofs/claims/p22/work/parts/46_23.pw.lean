/-! ===== pure: which CELLS were ROCK, by the reference (behind pm, pr12) ===== -/
section PW
variable {U : Nat → Int32} {V : Nat → Int64} {si : Nat → Nat → Int32} {sj : Nat → Nat → Int64} {sq : Nat → Nat → Option Nat}
def rkA (A : Nat → Int32) (f c : Nat) : Bool := if c < 20 then b3 (A (2520 + 2 * f)) c else b3 (A (2520 + 2 * f + 1)) (c - 20)
theorem wr_m {x x19 : Int32} {c f : Nat} (hx : x.toInt = (c : Int)) (hc : c < 40) (hf : x19.toInt = (f : Int)) (hf2 : f ≤ 600) : g_X12_wasRock x x19 U V si sj sq = ((if rkA (si 384) f c = true then 1 else 0), U, V, si, sj, sq) := by
  have k20 : (20 : Int32).toInt = ((20 : Nat) : Int) := by decide
  have m1 := i_mul (show (2 : Int32).toInt = 2 by decide) hf (by omega) (by omega)
  have m2 := i_add (show (2520 : Int32).toInt = 2520 by decide) m1 (by omega) (by omega)
  have m3 := i_add m2 (show (1 : Int32).toInt = 1 by decide) (by omega) (by omega)
  have fin : ∀ (w : Int32) (s : Nat) (y : Int32), s < 32 → y.toInt = (s : Int) → g_X12_wasRock_K42 U V si sj sq (w >>> (y &&& 31)) = ((if b3 w s = true then 1 else 0), U, V, si, sj, sq) := fun w s y hs hy => by
    rw [g_X12_wasRock_K42_e]
    simp only [↓ap1_n]
    rw [to_nI hy (by omega)]
    by_cases b : b3 w s = true
    · rw [if_pos ((tb_1 hs w).mpr b), if_pos b]
    · rw [if_neg (fun z => b ((tb_1 hs w).mp z)), if_neg b]
  rw [g_X12_wasRock_e]
  simp only [↓ap1_n]
  unfold rkA
  by_cases q : (20 : Int32) ≤ x
  · have q1 := (le_n k20 hx).mp q
    rw [if_pos q, at_n (p := 2520 + 2 * f + 1) (m3.trans (by omega)), if_neg (show ¬ c < 20 by omega)]
    exact fin _ (c - 20) _ (by omega) ((i_sub hx k20 (by omega) (by omega)).trans (by omega))
  · have q1 : ¬ 20 ≤ c := fun z => q ((le_n k20 hx).mpr z)
    rw [if_neg q, at_n (p := 2520 + 2 * f) (m2.trans (by omega)), if_pos (show c < 20 by omega)]
    exact fin _ c x (by omega) hx
end PW
