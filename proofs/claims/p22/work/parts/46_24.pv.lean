/-! ===== pure: AREA of both sides alike (behind pw) ===== -/
section PV
variable {I : Nat → Int32} {J : Nat → Int64} {rj : Nat → Nat → Int64} {rq : Nat → Nat → Option Nat}
variable {U : Nat → Int32} {V : Nat → Int64} {si : Nat → Nat → Int32} {sj : Nat → Nat → Int64} {sq : Nat → Nat → Option Nat}
theorem area_v {a0 : Int64} {a1 x19 : Int32} {R N m : Nat} {r : Nat → Nat → Int32} (hR : a1.toInt = (R : Int)) (hR2 : R ≤ 20) (hRm : (si 384 16).toInt = (R : Int)) (hN : (I 65).toInt = (N : Int)) (hN2 : N ≤ 40) (hNm : (si 384 2).toInt = (N : Int)) (hm : x19.toInt = (m : Int)) (hm2 : m ≤ 600) (hX : ∀ c, c < N → r 71 c = si 384 (100 + 16 * c + 2)) (hY : ∀ c, c < N → r 72 c = si 384 (100 + 16 * c + 3)) (hP : ∀ c, c < N → (0 ≤ (si 384 (100 + 16 * c + 2)).toInt ∧ (si 384 (100 + 16 * c + 2)).toInt ≤ 31) ∧ (0 ≤ (si 384 (100 + 16 * c + 3)).toInt ∧ (si 384 (100 + 16 * c + 3)).toInt ≤ 31)) (hK : ∀ c, c < N → hb a0 c = rkA (si 384) m c) : ∃ (y : Int32) (r' : Nat → Nat → Int32), g_X2_countArea a0 a1 I J r rj rq = (y, I, J, r', rj, rq) ∧ (∀ t, t ≠ 82 → t ≠ 83 → r' t = r t) ∧ g_X12_areaOf_K23 U V si sj sq x19 = (y, U, V, si, sj, sq) := by
  obtain ⟨f, hf⟩ : ∃ f : Nat → Bool, ∀ p, (f p = true ↔ ∃ c, c < N ∧ rkA (si 384) m c = true ∧ NM (si 384) R c (p / 32) (p % 32)) := by
    refine ⟨fun p => (List.range N).any fun c => rkA (si 384) m c && decide (ad (p % 32) (si 384 (100 + 16 * c + 2)).toInt.toNat * ad (p % 32) (si 384 (100 + 16 * c + 2)).toInt.toNat + ad (p / 32) (si 384 (100 + 16 * c + 3)).toInt.toNat * ad (p / 32) (si 384 (100 + 16 * c + 3)).toInt.toNat ≤ R * R), fun p => ?_⟩
    rw [List.any_eq_true]
    constructor
    · rintro ⟨c, h1, h2⟩
      rw [Bool.and_eq_true, decide_eq_true_iff] at h2
      exact ⟨c, List.mem_range.mp h1, h2.1, h2.2⟩
    · rintro ⟨c, h1, h2, h3⟩
      exact ⟨c, List.mem_range.mpr h1, by rw [Bool.and_eq_true, decide_eq_true_iff]; exact ⟨h2, h3⟩⟩
  obtain ⟨y, r', e1, e2, e3⟩ := area_c (I := I) (J := J) (rj := rj) (rq := rq) (a0 := a0) hR hR2 hN hN2 (r := r) (fun c hc => by rw [hX c hc, hY c hc]; exact hP c hc) f (fun k i hk hi => by
    rw [hf, show (32 * k + i) / 32 = k by omega, show (32 * k + i) % 32 = i by omega]
    constructor
    · rintro ⟨c, h1, h2, h3⟩
      exact ⟨c, h1, (hK c h1).trans h2, by unfold NRg; rw [hX c h1, hY c h1]; exact h3⟩
    · rintro ⟨c, h1, h2, h3⟩
      refine ⟨c, h1, (hK c h1).symm.trans h2, ?_⟩
      unfold NRg at h3
      rw [hX c h1, hY c h1] at h3
      exact h3)
  obtain ⟨y2, g1, g2⟩ := area_m (U := U) (V := V) (si := si) (sj := sj) (sq := sq) (x19 := x19) hNm hN2 hRm hR2 (rkA (si 384) m) (fun x c hx hc => wr_m hx (by omega) hm hm2) hP f (fun p _ => hf p)
  have e : y2 = y := Int32.toInt_inj.mp (g2.trans e3.symm)
  rw [e] at g1
  exact ⟨y, r', e1, e2, g1⟩
end PV
