/-! ===== pure: what a TOKEN of the reference says of the class's ===== -/
section PR2
variable {J : Nat → Int64} {ri : Nat → Nat → Int32} {rj : Nat → Nat → Int64} {rq : Nat → Nat → Option Nat}
/-- the words, each as one number -/
def wtL (w : Nat) : List Nat → Int32 → Int32
  | [], _ => 34
  | a :: L, k => if w = a then k else wtL w L (k + Int32.ofInt 1)
theorem wtk_L {T : Nat → Int32} {n s e : Nat} (h : spn ltr T n s e) : ∀ (L : List (Nat × Nat)) (k : Int32), (∀ a, a ∈ L → a.2 ≤ 7 ∧ 1 ≤ a.2 ∧ byt txW a.1 a.2) → wtk T s e L k = wtL (wdN T s e) (L.map (fun a => pkN txW a.1 a.2)) k
  | [], _, _ => rfl
  | a :: L, k, hL => by
    have ha := hL a (List.mem_cons_self ..)
    have ih := wtk_L h L (k + Int32.ofInt 1) (fun b hb => hL b (List.mem_cons_of_mem _ hb))
    have iff : isW T s e a.1 a.2 ↔ wdN T s e = pkN txW a.1 a.2 := by
      unfold isW wdN
      have hse := h.1
      constructor
      · intro ⟨h1, h2⟩
        rw [if_pos (show e - s ≤ 7 by omega), show e - s = a.2 by omega]
        exact pkN_cg a.2 ((mt_at _ _ _).mp h2)
      · intro h1
        by_cases q : e - s ≤ 7
        · rw [if_pos q] at h1
          obtain ⟨i1, i2⟩ := pkN_inj (e - s) a.2 (ltr_byt h (e - s) (by omega)) ha.2.2 h1
          exact ⟨by omega, (mt_at _ _ _).mpr (fun j hj => i2 j (by omega))⟩
        · rw [if_neg q] at h1
          obtain ⟨l, hl⟩ : ∃ l, a.2 = l + 1 := ⟨a.2 - 1, by omega⟩
          rw [hl] at h1
          have hb := ha.2.2
          rw [hl] at hb
          have := pkN_pos hb
          omega
    show @ite _ (isW T s e a.1 a.2) (Classical.propDecidable _) k (wtk T s e L (k + Int32.ofInt 1)) = if wdN T s e = pkN txW a.1 a.2 then k else wtL (wdN T s e) (L.map (fun a => pkN txW a.1 a.2)) (k + Int32.ofInt 1)
    by_cases q : isW T s e a.1 a.2
    · rw [if_pos q, if_pos (iff.mp q)]
    · rw [if_neg q, if_neg (fun y => q (iff.mpr y)), ih]
theorem byt_W : ∀ a, a ∈ WL → a.2 ≤ 7 ∧ 1 ≤ a.2 ∧ byt txW a.1 a.2 := by
  unfold byt WL
  decide +kernel
def NW : List Nat := [465491424371, 123580963646565, 7168377, 1987015781, 478660552050, 1751476594, 27988572848220524, 6711672, 465557354085, 28530, 6385252, 7237492, 6383461, 7039342, 427120748148, 482854658917, 470020945000, 504363246962]
theorem NW_e : WL.map (fun a => pkN txW a.1 a.2) = NW := by decide +kernel
theorem wtk_N {T : Nat → Int32} {n s e : Nat} (h : spn ltr T n s e) : wtk T s e WL 0 = wtL (wdN T s e) NW 0 := by rw [wtk_L h WL 0 byt_W, NW_e]
/-- which word it is -/
def WDF (w : Nat) (c : Int32) : Prop := ((0 ≤ c.toInt ∧ c.toInt ≤ 17) ∨ c = 34) ∧ (w = 465491424371 ↔ c = 0) ∧ (w = 123580963646565 ↔ c = 1) ∧ (w = 7168377 ↔ c = 2) ∧ (w = 1987015781 ↔ c = 3) ∧ (w = 478660552050 ↔ c = 4) ∧ (w = 1751476594 ↔ c = 5) ∧ (w = 27988572848220524 ↔ c = 6) ∧ (w = 6711672 ↔ c = 7) ∧ (w = 465557354085 ↔ c = 8) ∧ (w = 28530 ↔ c = 9) ∧ (w = 6385252 ↔ c = 10) ∧ (w = 7237492 ↔ c = 11) ∧ (w = 6383461 ↔ c = 12) ∧ (w = 7039342 ↔ c = 13) ∧ (w = 427120748148 ↔ c = 14) ∧ (w = 482854658917 ↔ c = 15) ∧ (w = 470020945000 ↔ c = 16) ∧ (w = 504363246962 ↔ c = 17)
theorem wtL_n {w a : Nat} {L : List Nat} {k : Int32} (h : ¬ w = a) : wtL w (a :: L) k = wtL w L (k + Int32.ofInt 1) := if_neg h
theorem wdf {w : Nat} : WDF w (wtL w NW 0) := by
  unfold NW
  by_cases q0 : w = 465491424371
  · subst q0; unfold WDF; decide +kernel
  by_cases q1 : w = 123580963646565
  · subst q1; unfold WDF; decide +kernel
  by_cases q2 : w = 7168377
  · subst q2; unfold WDF; decide +kernel
  by_cases q3 : w = 1987015781
  · subst q3; unfold WDF; decide +kernel
  by_cases q4 : w = 478660552050
  · subst q4; unfold WDF; decide +kernel
  by_cases q5 : w = 1751476594
  · subst q5; unfold WDF; decide +kernel
  by_cases q6 : w = 27988572848220524
  · subst q6; unfold WDF; decide +kernel
  by_cases q7 : w = 6711672
  · subst q7; unfold WDF; decide +kernel
  by_cases q8 : w = 465557354085
  · subst q8; unfold WDF; decide +kernel
  by_cases q9 : w = 28530
  · subst q9; unfold WDF; decide +kernel
  by_cases q10 : w = 6385252
  · subst q10; unfold WDF; decide +kernel
  by_cases q11 : w = 7237492
  · subst q11; unfold WDF; decide +kernel
  by_cases q12 : w = 6383461
  · subst q12; unfold WDF; decide +kernel
  by_cases q13 : w = 7039342
  · subst q13; unfold WDF; decide +kernel
  by_cases q14 : w = 427120748148
  · subst q14; unfold WDF; decide +kernel
  by_cases q15 : w = 482854658917
  · subst q15; unfold WDF; decide +kernel
  by_cases q16 : w = 470020945000
  · subst q16; unfold WDF; decide +kernel
  by_cases q17 : w = 504363246962
  · subst q17; unfold WDF; decide +kernel
  have e : wtL w [465491424371, 123580963646565, 7168377, 1987015781, 478660552050, 1751476594, 27988572848220524, 6711672, 465557354085, 28530, 6385252, 7237492, 6383461, 7039342, 427120748148, 482854658917, 470020945000, 504363246962] 0 = 34 := (wtL_n q0).trans ((wtL_n q1).trans ((wtL_n q2).trans ((wtL_n q3).trans ((wtL_n q4).trans ((wtL_n q5).trans ((wtL_n q6).trans ((wtL_n q7).trans ((wtL_n q8).trans ((wtL_n q9).trans ((wtL_n q10).trans ((wtL_n q11).trans ((wtL_n q12).trans ((wtL_n q13).trans ((wtL_n q14).trans ((wtL_n q15).trans ((wtL_n q16).trans ((wtL_n q17).trans (rfl))))))))))))))))))
  rw [e]
  unfold WDF
  refine ⟨Or.inr rfl, ⟨fun y => absurd y q0, fun y => absurd y (by decide)⟩, ⟨fun y => absurd y q1, fun y => absurd y (by decide)⟩, ⟨fun y => absurd y q2, fun y => absurd y (by decide)⟩, ⟨fun y => absurd y q3, fun y => absurd y (by decide)⟩, ⟨fun y => absurd y q4, fun y => absurd y (by decide)⟩, ⟨fun y => absurd y q5, fun y => absurd y (by decide)⟩, ⟨fun y => absurd y q6, fun y => absurd y (by decide)⟩, ⟨fun y => absurd y q7, fun y => absurd y (by decide)⟩, ⟨fun y => absurd y q8, fun y => absurd y (by decide)⟩, ⟨fun y => absurd y q9, fun y => absurd y (by decide)⟩, ⟨fun y => absurd y q10, fun y => absurd y (by decide)⟩, ⟨fun y => absurd y q11, fun y => absurd y (by decide)⟩, ⟨fun y => absurd y q12, fun y => absurd y (by decide)⟩, ⟨fun y => absurd y q13, fun y => absurd y (by decide)⟩, ⟨fun y => absurd y q14, fun y => absurd y (by decide)⟩, ⟨fun y => absurd y q15, fun y => absurd y (by decide)⟩, ⟨fun y => absurd y q16, fun y => absurd y (by decide)⟩, ⟨fun y => absurd y q17, fun y => absurd y (by decide)⟩⟩
/-- what the reference's fields say of the class's TOKEN c (v: its value) -/
def TKF (I : Nat → Int32) (J : Nat → Int64) (c v : Int32) : Prop := (0 ≤ c.toInt ∧ c.toInt ≤ 34) ∧ (I 393 = 1 ↔ c = 18) ∧ (I 393 = 0 ↔ c = 33) ∧ (I 393 = 60 ↔ c = 19) ∧ (I 393 = 4 ↔ c = 20) ∧ (I 393 = 62 ↔ c = 21) ∧ (I 393 = 5 ↔ c = 22) ∧ (I 393 = 61 ↔ c = 23) ∧ (I 393 = 35 ↔ c = 24) ∧ (I 393 = 43 ↔ c = 25) ∧ (I 393 = 45 ↔ c = 26) ∧ (I 393 = 42 ↔ c = 27) ∧ (I 393 = 47 ↔ c = 28) ∧ (I 393 = 40 ↔ c = 29) ∧ (I 393 = 41 ↔ c = 30) ∧ (I 393 = 44 ↔ c = 31) ∧ (I 393 = 59 ↔ c = 32) ∧ (I 393 = 2 ↔ ((0 ≤ c.toInt ∧ c.toInt ≤ 17) ∨ (c = 34 ∧ I 393 ≠ 3))) ∧ (c = 18 → nvE v (I 394)) ∧ (I 393 = 2 → (J 395 = lN 465491424371 ↔ c = 0) ∧ (J 395 = lN 123580963646565 ↔ c = 1) ∧ (J 395 = lN 7168377 ↔ c = 2) ∧ (J 395 = lN 1987015781 ↔ c = 3) ∧ (J 395 = lN 478660552050 ↔ c = 4) ∧ (J 395 = lN 1751476594 ↔ c = 5) ∧ (J 395 = lN 27988572848220524 ↔ c = 6) ∧ (J 395 = lN 6711672 ↔ c = 7) ∧ (J 395 = lN 465557354085 ↔ c = 8) ∧ (J 395 = lN 28530 ↔ c = 9) ∧ (J 395 = lN 6385252 ↔ c = 10) ∧ (J 395 = lN 7237492 ↔ c = 11) ∧ (J 395 = lN 6383461 ↔ c = 12) ∧ (J 395 = lN 7039342 ↔ c = 13) ∧ (J 395 = lN 427120748148 ↔ c = 14) ∧ (J 395 = lN 482854658917 ↔ c = 15) ∧ (J 395 = lN 470020945000 ↔ c = 16) ∧ (J 395 = lN 504363246962 ↔ c = 17))
theorem tkf_lit {I : Nat → Int32} {J : Nat → Int64} {c v t : Int32} (ht : I 393 = t) (h : (t, c) ∈ [((0 : Int32), (33 : Int32)), (3, 34), (60, 19), (4, 20), (62, 21), (5, 22), (61, 23), (35, 24), (43, 25), (45, 26), (42, 27), (47, 28), (40, 29), (41, 30), (44, 31), (59, 32)]) : TKF I J c v := by
  unfold TKF
  rw [ht]
  simp only [List.mem_cons, Prod.mk.injEq, List.not_mem_nil, or_false] at h
  rcases h with ⟨rfl, rfl⟩ | ⟨rfl, rfl⟩ | ⟨rfl, rfl⟩ | ⟨rfl, rfl⟩ | ⟨rfl, rfl⟩ | ⟨rfl, rfl⟩ | ⟨rfl, rfl⟩ | ⟨rfl, rfl⟩ | ⟨rfl, rfl⟩ | ⟨rfl, rfl⟩ | ⟨rfl, rfl⟩ | ⟨rfl, rfl⟩ | ⟨rfl, rfl⟩ | ⟨rfl, rfl⟩ | ⟨rfl, rfl⟩ | ⟨rfl, rfl⟩ <;> (refine ⟨by decide, by decide, by decide, by decide, by decide, by decide, by decide, by decide, by decide, by decide, by decide, by decide, by decide, by decide, by decide, by decide, by decide, by decide, fun q => absurd q (by decide), fun q => absurd q (by decide)⟩)
theorem tkf_num {I : Nat → Int32} {J : Nat → Int64} {v : Int32} (ht : I 393 = 1) (h : nvE v (I 394)) : TKF I J 18 v := by
  unfold TKF
  rw [ht]
  exact ⟨by decide, by decide, by decide, by decide, by decide, by decide, by decide, by decide, by decide, by decide, by decide, by decide, by decide, by decide, by decide, by decide, by decide, by decide, fun _ => h, fun q => absurd q (by decide)⟩
theorem tkf_wd {I : Nat → Int32} {J : Nat → Int64} {v : Int32} {w : Nat} (ht : I 393 = 2) (hJ : J 395 = lN w) (hw : w < 2 ^ 63) : TKF I J (wtL w NW 0) v := by
  have d := wdf (w := w)
  generalize wtL w NW 0 = c at d ⊢
  obtain ⟨d0, d1, d2, d3, d4, d5, d6, d7, d8, d9, d10, d11, d12, d13, d14, d15, d16, d17, d18⟩ := d
  have ne : ∀ k : Int32, 18 ≤ k.toInt → k.toInt ≠ 34 → c ≠ k := fun k h1 h2 q => by
    rw [← q] at h1 h2
    rcases d0 with y | y
    · omega
    · rw [y] at h2; exact h2 (by decide)
  have j : ∀ a : Nat, a < 2 ^ 63 → (J 395 = lN a ↔ w = a) := fun a ha => by rw [hJ]; exact fb_lN_inj hw ha
  unfold TKF
  rw [ht]
  refine ⟨?_, ⟨fun q => absurd q (by decide), fun q => absurd q (ne 18 (by decide) (by decide))⟩, ⟨fun q => absurd q (by decide), fun q => absurd q (ne 33 (by decide) (by decide))⟩, ⟨fun q => absurd q (by decide), fun q => absurd q (ne 19 (by decide) (by decide))⟩, ⟨fun q => absurd q (by decide), fun q => absurd q (ne 20 (by decide) (by decide))⟩, ⟨fun q => absurd q (by decide), fun q => absurd q (ne 21 (by decide) (by decide))⟩, ⟨fun q => absurd q (by decide), fun q => absurd q (ne 22 (by decide) (by decide))⟩, ⟨fun q => absurd q (by decide), fun q => absurd q (ne 23 (by decide) (by decide))⟩, ⟨fun q => absurd q (by decide), fun q => absurd q (ne 24 (by decide) (by decide))⟩, ⟨fun q => absurd q (by decide), fun q => absurd q (ne 25 (by decide) (by decide))⟩, ⟨fun q => absurd q (by decide), fun q => absurd q (ne 26 (by decide) (by decide))⟩, ⟨fun q => absurd q (by decide), fun q => absurd q (ne 27 (by decide) (by decide))⟩, ⟨fun q => absurd q (by decide), fun q => absurd q (ne 28 (by decide) (by decide))⟩, ⟨fun q => absurd q (by decide), fun q => absurd q (ne 29 (by decide) (by decide))⟩, ⟨fun q => absurd q (by decide), fun q => absurd q (ne 30 (by decide) (by decide))⟩, ⟨fun q => absurd q (by decide), fun q => absurd q (ne 31 (by decide) (by decide))⟩, ⟨fun q => absurd q (by decide), fun q => absurd q (ne 32 (by decide) (by decide))⟩, ⟨fun _ => ?_, fun _ => rfl⟩, fun q => absurd q (ne 18 (by decide) (by decide)), fun _ => ⟨(j 465491424371 (by decide)).trans d1, (j 123580963646565 (by decide)).trans d2, (j 7168377 (by decide)).trans d3, (j 1987015781 (by decide)).trans d4, (j 478660552050 (by decide)).trans d5, (j 1751476594 (by decide)).trans d6, (j 27988572848220524 (by decide)).trans d7, (j 6711672 (by decide)).trans d8, (j 465557354085 (by decide)).trans d9, (j 28530 (by decide)).trans d10, (j 6385252 (by decide)).trans d11, (j 7237492 (by decide)).trans d12, (j 6383461 (by decide)).trans d13, (j 7039342 (by decide)).trans d14, (j 427120748148 (by decide)).trans d15, (j 482854658917 (by decide)).trans d16, (j 470020945000 (by decide)).trans d17, (j 504363246962 (by decide)).trans d18⟩⟩
  · rcases d0 with y | y
    · omega
    · rw [y]; decide
  · rcases d0 with y | y
    · exact Or.inl y
    · exact Or.inr ⟨y, by decide⟩
/-! signs -/
theorem ite_e {c : Prop} [Decidable c] {a b v : Int32} (ha : a = v) (hb : b = v) : (if c then a else b) = v := by
  by_cases h : c
  · rw [if_pos h]; exact ha
  · rw [if_neg h]; exact hb
theorem sgO_34 {x : Int32} (h : x ≠ 60 ∧ x ≠ 62 ∧ x ≠ 61 ∧ x ≠ 35 ∧ x ≠ 43 ∧ x ≠ 45 ∧ x ≠ 42 ∧ x ≠ 47 ∧ x ≠ 40 ∧ x ≠ 41 ∧ x ≠ 44 ∧ x ≠ 59) : g_X6_signOf x = 34 := by
  obtain ⟨h60, h62, h61, h35, h43, h45, h42, h47, h40, h41, h44, h59⟩ := h
  rw [g_X6_signOf_e]
  exact (if_neg h35).trans (ite_e rfl (ite_e rfl (ite_e rfl (ite_e rfl ((if_neg h40).trans ((if_neg h41).trans ((if_neg h42).trans ((if_neg h43).trans ((if_neg h44).trans ((if_neg h45).trans (ite_e rfl ((if_neg h47).trans (ite_e rfl (ite_e rfl (ite_e rfl (ite_e rfl (ite_e rfl (ite_e rfl (ite_e rfl (ite_e rfl (ite_e rfl (ite_e rfl (ite_e rfl ((if_neg h59).trans ((if_neg h60).trans ((if_neg h61).trans ((if_neg h62).trans (rfl))))))))))))))))))))))))))))
/-- the sign as the reference has it -/
def sgR (T : Nat → Int32) (n s : Nat) : Int32 := if T s = 60 then (if s + 1 < n ∧ T (s + 1) = 61 then 4 else 60) else if T s = 62 then (if s + 1 < n ∧ T (s + 1) = 61 then 5 else 62) else if T s = 61 then 61 else if T s = 35 then 35 else if T s = 43 then 43 else if T s = 45 then 45 else if T s = 42 then 42 else if T s = 47 then 47 else if T s = 40 then 40 else if T s = 41 then 41 else if T s = 44 then 44 else if T s = 59 then 59 else 3
theorem sg_pair {T : Nat → Int32} {n s : Nat} : (sgR T n s, sgT T n s) ∈ [((0 : Int32), (33 : Int32)), (3, 34), (60, 19), (4, 20), (62, 21), (5, 22), (61, 23), (35, 24), (43, 25), (45, 26), (42, 27), (47, 28), (40, 29), (41, 30), (44, 31), (59, 32)] := by
  unfold sgR sgT
  by_cases q60 : T s = 60
  · rw [q60, if_pos (show (60 : Int32) = 60 from rfl), show g_X6_signOf 60 = 19 from by decide]
    by_cases w : s + 1 < n ∧ T (s + 1) = 61
    · rw [if_pos w, if_pos w]; decide
    · rw [if_neg w, if_neg w]; decide
  by_cases q62 : T s = 62
  · rw [q62, if_neg (show ¬ (62 : Int32) = 60 by decide), if_pos (show (62 : Int32) = 62 from rfl), show g_X6_signOf 62 = 21 from by decide]
    by_cases w : s + 1 < n ∧ T (s + 1) = 61
    · rw [if_pos w, if_pos w]; decide
    · rw [if_neg w, if_neg w]; decide
  by_cases q61 : T s = 61
  · rw [q61, if_neg (show ¬ (61 : Int32) = 60 by decide), if_neg (show ¬ (61 : Int32) = 62 by decide), if_pos (show (61 : Int32) = 61 from rfl), show g_X6_signOf 61 = 23 from by decide]
    by_cases w : s + 1 < n ∧ T (s + 1) = 61
    · rw [if_pos w]; decide
    · rw [if_neg w]; decide
  by_cases q35 : T s = 35
  · rw [q35, if_neg (show ¬ (35 : Int32) = 60 by decide), if_neg (show ¬ (35 : Int32) = 62 by decide), if_neg (show ¬ (35 : Int32) = 61 by decide), if_pos (show (35 : Int32) = 35 from rfl), show g_X6_signOf 35 = 24 from by decide]
    by_cases w : s + 1 < n ∧ T (s + 1) = 61
    · rw [if_pos w]; decide
    · rw [if_neg w]; decide
  by_cases q43 : T s = 43
  · rw [q43, if_neg (show ¬ (43 : Int32) = 60 by decide), if_neg (show ¬ (43 : Int32) = 62 by decide), if_neg (show ¬ (43 : Int32) = 61 by decide), if_neg (show ¬ (43 : Int32) = 35 by decide), if_pos (show (43 : Int32) = 43 from rfl), show g_X6_signOf 43 = 25 from by decide]
    by_cases w : s + 1 < n ∧ T (s + 1) = 61
    · rw [if_pos w]; decide
    · rw [if_neg w]; decide
  by_cases q45 : T s = 45
  · rw [q45, if_neg (show ¬ (45 : Int32) = 60 by decide), if_neg (show ¬ (45 : Int32) = 62 by decide), if_neg (show ¬ (45 : Int32) = 61 by decide), if_neg (show ¬ (45 : Int32) = 35 by decide), if_neg (show ¬ (45 : Int32) = 43 by decide), if_pos (show (45 : Int32) = 45 from rfl), show g_X6_signOf 45 = 26 from by decide]
    by_cases w : s + 1 < n ∧ T (s + 1) = 61
    · rw [if_pos w]; decide
    · rw [if_neg w]; decide
  by_cases q42 : T s = 42
  · rw [q42, if_neg (show ¬ (42 : Int32) = 60 by decide), if_neg (show ¬ (42 : Int32) = 62 by decide), if_neg (show ¬ (42 : Int32) = 61 by decide), if_neg (show ¬ (42 : Int32) = 35 by decide), if_neg (show ¬ (42 : Int32) = 43 by decide), if_neg (show ¬ (42 : Int32) = 45 by decide), if_pos (show (42 : Int32) = 42 from rfl), show g_X6_signOf 42 = 27 from by decide]
    by_cases w : s + 1 < n ∧ T (s + 1) = 61
    · rw [if_pos w]; decide
    · rw [if_neg w]; decide
  by_cases q47 : T s = 47
  · rw [q47, if_neg (show ¬ (47 : Int32) = 60 by decide), if_neg (show ¬ (47 : Int32) = 62 by decide), if_neg (show ¬ (47 : Int32) = 61 by decide), if_neg (show ¬ (47 : Int32) = 35 by decide), if_neg (show ¬ (47 : Int32) = 43 by decide), if_neg (show ¬ (47 : Int32) = 45 by decide), if_neg (show ¬ (47 : Int32) = 42 by decide), if_pos (show (47 : Int32) = 47 from rfl), show g_X6_signOf 47 = 28 from by decide]
    by_cases w : s + 1 < n ∧ T (s + 1) = 61
    · rw [if_pos w]; decide
    · rw [if_neg w]; decide
  by_cases q40 : T s = 40
  · rw [q40, if_neg (show ¬ (40 : Int32) = 60 by decide), if_neg (show ¬ (40 : Int32) = 62 by decide), if_neg (show ¬ (40 : Int32) = 61 by decide), if_neg (show ¬ (40 : Int32) = 35 by decide), if_neg (show ¬ (40 : Int32) = 43 by decide), if_neg (show ¬ (40 : Int32) = 45 by decide), if_neg (show ¬ (40 : Int32) = 42 by decide), if_neg (show ¬ (40 : Int32) = 47 by decide), if_pos (show (40 : Int32) = 40 from rfl), show g_X6_signOf 40 = 29 from by decide]
    by_cases w : s + 1 < n ∧ T (s + 1) = 61
    · rw [if_pos w]; decide
    · rw [if_neg w]; decide
  by_cases q41 : T s = 41
  · rw [q41, if_neg (show ¬ (41 : Int32) = 60 by decide), if_neg (show ¬ (41 : Int32) = 62 by decide), if_neg (show ¬ (41 : Int32) = 61 by decide), if_neg (show ¬ (41 : Int32) = 35 by decide), if_neg (show ¬ (41 : Int32) = 43 by decide), if_neg (show ¬ (41 : Int32) = 45 by decide), if_neg (show ¬ (41 : Int32) = 42 by decide), if_neg (show ¬ (41 : Int32) = 47 by decide), if_neg (show ¬ (41 : Int32) = 40 by decide), if_pos (show (41 : Int32) = 41 from rfl), show g_X6_signOf 41 = 30 from by decide]
    by_cases w : s + 1 < n ∧ T (s + 1) = 61
    · rw [if_pos w]; decide
    · rw [if_neg w]; decide
  by_cases q44 : T s = 44
  · rw [q44, if_neg (show ¬ (44 : Int32) = 60 by decide), if_neg (show ¬ (44 : Int32) = 62 by decide), if_neg (show ¬ (44 : Int32) = 61 by decide), if_neg (show ¬ (44 : Int32) = 35 by decide), if_neg (show ¬ (44 : Int32) = 43 by decide), if_neg (show ¬ (44 : Int32) = 45 by decide), if_neg (show ¬ (44 : Int32) = 42 by decide), if_neg (show ¬ (44 : Int32) = 47 by decide), if_neg (show ¬ (44 : Int32) = 40 by decide), if_neg (show ¬ (44 : Int32) = 41 by decide), if_pos (show (44 : Int32) = 44 from rfl), show g_X6_signOf 44 = 31 from by decide]
    by_cases w : s + 1 < n ∧ T (s + 1) = 61
    · rw [if_pos w]; decide
    · rw [if_neg w]; decide
  by_cases q59 : T s = 59
  · rw [q59, if_neg (show ¬ (59 : Int32) = 60 by decide), if_neg (show ¬ (59 : Int32) = 62 by decide), if_neg (show ¬ (59 : Int32) = 61 by decide), if_neg (show ¬ (59 : Int32) = 35 by decide), if_neg (show ¬ (59 : Int32) = 43 by decide), if_neg (show ¬ (59 : Int32) = 45 by decide), if_neg (show ¬ (59 : Int32) = 42 by decide), if_neg (show ¬ (59 : Int32) = 47 by decide), if_neg (show ¬ (59 : Int32) = 40 by decide), if_neg (show ¬ (59 : Int32) = 41 by decide), if_neg (show ¬ (59 : Int32) = 44 by decide), if_pos (show (59 : Int32) = 59 from rfl), show g_X6_signOf 59 = 32 from by decide]
    by_cases w : s + 1 < n ∧ T (s + 1) = 61
    · rw [if_pos w]; decide
    · rw [if_neg w]; decide
  rw [if_neg q60, if_neg q62, if_neg q61, if_neg q35, if_neg q43, if_neg q45, if_neg q42, if_neg q47, if_neg q40, if_neg q41, if_neg q44, if_neg q59, sgO_34 ⟨q60, q62, q61, q35, q43, q45, q42, q47, q40, q41, q44, q59⟩]
  by_cases w : s + 1 < n ∧ T (s + 1) = 61
  · rw [if_pos w]; decide
  · rw [if_neg w]; decide
theorem sg_not {x : Int32} {v b : Int32} (hv : v ≠ 34) (hb : ∀ y, y ∈ [(60 : Int32), 62, 61, 35, 43, 45, 42, 47, 40, 41, 44, 59] → g_X6_signOf y = v → y = b) (h : g_X6_signOf x = v) : x = b := by
  by_cases q60 : x = 60
  · exact hb x (by rw [q60]; decide) h
  by_cases q62 : x = 62
  · exact hb x (by rw [q62]; decide) h
  by_cases q61 : x = 61
  · exact hb x (by rw [q61]; decide) h
  by_cases q35 : x = 35
  · exact hb x (by rw [q35]; decide) h
  by_cases q43 : x = 43
  · exact hb x (by rw [q43]; decide) h
  by_cases q45 : x = 45
  · exact hb x (by rw [q45]; decide) h
  by_cases q42 : x = 42
  · exact hb x (by rw [q42]; decide) h
  by_cases q47 : x = 47
  · exact hb x (by rw [q47]; decide) h
  by_cases q40 : x = 40
  · exact hb x (by rw [q40]; decide) h
  by_cases q41 : x = 41
  · exact hb x (by rw [q41]; decide) h
  by_cases q44 : x = 44
  · exact hb x (by rw [q44]; decide) h
  by_cases q59 : x = 59
  · exact hb x (by rw [q59]; decide) h
  rw [sgO_34 ⟨q60, q62, q61, q35, q43, q45, q42, q47, q40, q41, q44, q59⟩] at h
  exact absurd h.symm hv
theorem sgE_R {T : Nat → Int32} {n s : Nat} : sgE T n s = if (T s = 60 ∨ T s = 62) ∧ s + 1 < n ∧ T (s + 1) = 61 then s + 2 else s + 1 := by
  have a : g_X6_signOf (T s) = 19 ↔ T s = 60 := ⟨fun q => sg_not (v := 19) (b := 60) (by decide) (by decide) q, fun q => by rw [q]; decide⟩
  have b : g_X6_signOf (T s) = 21 ↔ T s = 62 := ⟨fun q => sg_not (v := 21) (b := 62) (by decide) (by decide) q, fun q => by rw [q]; decide⟩
  unfold sgE
  simp only [a, b]
  by_cases w : (T s = 60 ∨ T s = 62) ∧ s + 1 < n ∧ T (s + 1) = 61
  · rw [if_pos w, if_pos (show s + 1 < n ∧ T (s + 1) = 61 ∧ (T s = 60 ∨ T s = 62) from ⟨w.2.1, w.2.2, w.1⟩)]
  · rw [if_neg w, if_neg (show ¬ (s + 1 < n ∧ T (s + 1) = 61 ∧ (T s = 60 ∨ T s = 62)) from fun y => w ⟨y.2.2, y.1, y.2.1⟩)]
theorem ntk_skip {n : Nat} (h3 : n ≤ 300) : ∀ (m : Nat) (I : Nat → Int32) (p s : Nat), (I 388).toInt = (n : Int) → (I 391).toInt = (p : Int) → p ≤ n → 300 - p < m → spn blk (ri 387) n p s → ∃ I' m', g_X12_nextToken_x_L0 J ri rj rq m I = g_X12_nextToken_x_L0 J ri rj rq (m' + 1) I' ∧ (I' 391).toInt = (s : Int) ∧ ∀ f, f ≠ 391 → I' f = I f := by
  intro m
  induction m with
  | zero => intro I p s _ _ _ h; exact absurd h (Nat.not_lt_zero _)
  | succ m ih =>
    intro I p s hn hp hpn hm hs
    by_cases c : p < n ∧ blk (ri 387 p)
    · obtain ⟨s1, s2⟩ := spn_s hs c.1 c.2
      obtain ⟨I', m', i1, i2, i3⟩ := ih (va_up I 391 (I 391 + 1)) (p + 1) s (by rw [va_up_ne _ _ (show (388 : Nat) ≠ 391 by decide)]; exact hn) (by rw [va_up_self]; exact upN hp (by omega)) (by omega) (by omega) s2
      refine ⟨I', m', ?_, i2, fun f hf => (i3 f hf).trans (va_up_ne _ _ hf)⟩
      rw [← i1, g_X12_nextToken_x_L0_e]
      try simp only [↓ap1_n]
      rw [bn_n (see_v hn hp)]
      try simp only [↓ap1_n]
      rw [see_in c.1]
      by_cases q : ri 387 p = 32
      · rw [if_pos q]
      · have q2 : ri 387 p = 10 := by rcases c.2 with y | y; exact absurd y q; exact y
        rw [if_neg q, bn_n (see_v hn hp)]
        try simp only [↓ap1_n]
        rw [see_in c.1, if_pos q2]
    · have e1 : s = p := spn_z hs (by
        by_cases w : p < n
        · exact Or.inr (fun y => c ⟨w, y⟩)
        · exact Or.inl (by omega))
      subst e1
      exact ⟨I, m, rfl, hp, fun _ _ => rfl⟩
theorem K332_a {x : Int32} {I : Nat → Int32} : g_X12_nextToken_x_K332 J ri rj rq x I = g_X12_nextToken_x_K343 J ri rj rq x I := by rw [g_X12_nextToken_x_K332_e]
theorem K327_a {x : Int32} {I : Nat → Int32} : g_X12_nextToken_x_K327 J ri rj rq x I = g_X12_nextToken_x_K343_2 J ri rj rq x I := by rw [g_X12_nextToken_x_K327_e, g_X12_nextToken_x_K332_2_e]
/-- a sign: what becomes of the place and the TOKEN -/
theorem sign_2 {n s : Nat} {I : Nat → Int32} (hn : (I 388).toInt = (n : Int)) (hp : (I 391).toInt = ((s + 1 : Nat) : Int)) (h3 : n ≤ 300) (hsn : s < n) : ∃ I', g_X12_nextToken_x_K343_2 J ri rj rq (ri 387 s) I = (I', J, ri, rj, rq) ∧ (I' 391).toInt = ((if (ri 387 s = 60 ∨ ri 387 s = 62) ∧ s + 1 < n ∧ ri 387 (s + 1) = 61 then s + 2 else s + 1 : Nat) : Int) ∧ I' 393 = (if ri 387 s = 60 then (if s + 1 < n ∧ ri 387 (s + 1) = 61 then 4 else 60) else if ri 387 s = 62 then (if s + 1 < n ∧ ri 387 (s + 1) = 61 then 5 else 62) else ri 387 s) ∧ ∀ f, f ≠ 391 → f ≠ 393 → I' f = I f := by
  rw [g_X12_nextToken_x_K343_2_e]
  try simp only [↓ap1_n]
  have z1 : ∀ x : Int32, va_up I 393 x 391 = I 391 := fun x => va_up_ne _ _ (by decide)
  have z8 : ∀ x : Int32, va_up I 393 x 388 = I 388 := fun x => va_up_ne _ _ (by decide)
  have sv : ∀ x : Int32, g_X12_see_x (I 391) (va_up I 393 x) J ri rj rq = (seeN (ri 387) n (s + 1), va_up I 393 x, J, ri, rj, rq) := fun x => see_v (by rw [z8]; exact hn) hp
  have k61 : seeN (ri 387) n (s + 1) = 61 ↔ s + 1 < n ∧ ri 387 (s + 1) = 61 := by
    by_cases d : s + 1 < n
    · rw [see_in d]; exact ⟨fun y => ⟨d, y⟩, fun y => y.2⟩
    · rw [see_out (by omega)]; exact ⟨fun y => absurd y (by decide), fun y => absurd y.1 d⟩
  have more : ∀ (x : Int32) (t : Int32), (va_up (va_up (va_up I 393 x) 391 (I 391 + 1)) 393 t 391).toInt = ((s + 2 : Nat) : Int) := fun x t => by
    rw [va_up_ne _ _ (show (391 : Nat) ≠ 393 by decide), va_up_self]
    exact upN hp (by omega)
  have fr3 : ∀ (x t : Int32) (f : Nat), f ≠ 391 → f ≠ 393 → va_up (va_up (va_up I 393 x) 391 (I 391 + 1)) 393 t f = I f := fun x t f f1 f2 => by rw [va_up_ne _ _ f2, va_up_ne _ _ f1, va_up_ne _ _ f2]
  by_cases q : ri 387 s = 60
  · rw [if_pos q, if_pos q, z1, bn_n (sv _)]
    by_cases w : s + 1 < n ∧ ri 387 (s + 1) = 61
    · rw [if_pos (k61.mpr w), if_pos (show (ri 387 s = 60 ∨ ri 387 s = 62) ∧ s + 1 < n ∧ ri 387 (s + 1) = 61 from ⟨Or.inl q, w⟩), if_pos w]
      try simp only [↓ap1_n]
      exact ⟨_, rfl, more _ _, va_up_self _ _ _, fr3 _ _⟩
    · rw [if_neg (fun y => w (k61.mp y)), if_neg (show ¬ ((ri 387 s = 60 ∨ ri 387 s = 62) ∧ s + 1 < n ∧ ri 387 (s + 1) = 61) from fun y => w y.2), if_neg w]
      exact ⟨_, rfl, by rw [z1]; exact hp, by rw [va_up_self]; exact q, fun f _ f2 => va_up_ne _ _ f2⟩
  · rw [if_neg q, if_neg q]
    by_cases q2 : ri 387 s = 62
    · rw [if_pos q2, if_pos q2, z1, bn_n (sv _)]
      by_cases w : s + 1 < n ∧ ri 387 (s + 1) = 61
      · rw [if_pos (k61.mpr w), if_pos (show (ri 387 s = 60 ∨ ri 387 s = 62) ∧ s + 1 < n ∧ ri 387 (s + 1) = 61 from ⟨Or.inr q2, w⟩), if_pos w]
        try simp only [↓ap1_n]
        exact ⟨_, rfl, more _ _, va_up_self _ _ _, fr3 _ _⟩
      · rw [if_neg (fun y => w (k61.mp y)), if_neg (show ¬ ((ri 387 s = 60 ∨ ri 387 s = 62) ∧ s + 1 < n ∧ ri 387 (s + 1) = 61) from fun y => w y.2), if_neg w]
        exact ⟨_, rfl, by rw [z1]; exact hp, by rw [va_up_self]; exact q2, fun f _ f2 => va_up_ne _ _ f2⟩
    · rw [if_neg q2, if_neg q2, if_neg (show ¬ ((ri 387 s = 60 ∨ ri 387 s = 62) ∧ s + 1 < n ∧ ri 387 (s + 1) = 61) from fun y => by rcases y.1 with z | z; exact q z; exact q2 z)]
      exact ⟨_, rfl, by rw [z1]; exact hp, va_up_self _ _ _, fun f _ f2 => va_up_ne _ _ f2⟩
theorem sign_0 {s : Nat} {I : Nat → Int32} (hp : (I 391).toInt = ((s + 1 : Nat) : Int)) (q : ri 387 s ≠ 60) (q2 : ri 387 s ≠ 62) : ∃ I', g_X12_nextToken_x_K343 J ri rj rq (ri 387 s) I = (I', J, ri, rj, rq) ∧ (I' 391).toInt = ((s + 1 : Nat) : Int) ∧ I' 393 = 3 ∧ ∀ f, f ≠ 391 → f ≠ 393 → I' f = I f := by
  rw [g_X12_nextToken_x_K343_e]
  try simp only [↓ap1_n]
  rw [if_neg q, if_neg q2]
  exact ⟨_, rfl, by rw [va_up_ne _ _ (show (391 : Nat) ≠ 393 by decide)]; exact hp, va_up_self _ _ _, fun f _ f2 => va_up_ne _ _ f2⟩
theorem ntk_v {n : Nat} (h3 : n ≤ 300) {I : Nat → Int32} {p s e : Nat} {c v : Int32} (hn : (I 388).toInt = (n : Int)) (hp : (I 391).toInt = (p : Int)) (hpn : p ≤ n) (hb : ∀ j, j < n → 0 ≤ (ri 387 j).toInt) (ht : TKC (ri 387) n p c s e v) : ∃ I' J', g_X12_nextToken_x I J ri rj rq = (I', J', ri, rj, rq) ∧ (I' 391).toInt = (e : Int) ∧ (I' 392).toInt = (s : Int) ∧ TKF I' J' c v ∧ (∀ f, f ≠ 391 → f ≠ 392 → f ≠ 393 → f ≠ 394 → I' f = I f) ∧ ∀ f, f ≠ 395 → J' f = J f := by
  have hle := TKC_le ht
  obtain ⟨h0, h⟩ := ht
  rw [g_X12_nextToken_x_e]
  try simp only [↓ap1_n]
  obtain ⟨I1, m, a1, a2, a3⟩ := ntk_skip (J := J) (ri := ri) (rj := rj) (rq := rq) h3 ((300 - (I 391).toInt).toNat + 1) I p s hn hp hpn (by omega) h0
  have hn1 : (I1 388).toInt = (n : Int) := by rw [a3 388 (by decide)]; exact hn
  rw [a1, g_X12_nextToken_x_L0_e]
  try simp only [↓ap1_n]
  rw [bn_n (see_v hn1 a2)]
  try simp only [↓ap1_n]
  have nb : ¬ seeN (ri 387) n s = 32 ∧ ¬ seeN (ri 387) n s = 10 := by
    by_cases d : s < n
    · rw [see_in d]
      have := h0.2.2.2 d
      exact ⟨fun y => this (Or.inl y), fun y => this (Or.inr y)⟩
    · rw [see_out (by omega)]; exact ⟨by decide, by decide⟩
  rw [if_neg nb.1, bn_n (see_v hn1 a2)]
  try simp only [↓ap1_n]
  rw [if_neg nb.2]
  have z7 : va_up I1 392 (I1 391) 391 = I1 391 := va_up_ne _ _ (by decide)
  have z8 : va_up I1 392 (I1 391) 388 = I1 388 := va_up_ne _ _ (by decide)
  have z2 : va_up I1 392 (I1 391) 392 = I1 391 := va_up_self _ _ _
  have fr : ∀ f, f ≠ 391 → f ≠ 392 → va_up I1 392 (I1 391) f = I f := fun f f1 f2 => (va_up_ne _ _ f2).trans (a3 f f1)
  rw [z7]
  generalize va_up I1 392 (I1 391) = I2 at z7 z8 z2 fr ⊢
  have hn2 : (I2 388).toInt = (n : Int) := by rw [z8]; exact hn1
  have hp2 : (I2 391).toInt = (s : Int) := by rw [z7]; exact a2
  have hs2 : (I2 392).toInt = (s : Int) := by rw [z2]; exact a2
  rw [bn_n (see_v hn2 a2)]
  rcases h with ⟨b1, b2, b3⟩ | ⟨b1, b2, b3, b4, b5⟩ | ⟨b1, b2, b3, b4⟩ | ⟨b1, b2, b3, b4, b5⟩
  · rw [see_out (by omega), if_neg (show ¬ (0 : Int32) ≤ -1 by decide)]
    refine ⟨va_up I2 393 0, J, rfl, ?_, ?_, ?_, fun f f1 f2 f3 f4 => (va_up_ne _ _ f3).trans (fr f f1 f2), fun _ _ => rfl⟩
    · rw [va_up_ne _ _ (show (391 : Nat) ≠ 393 by decide), hp2, b1, b2]
    · rw [va_up_ne _ _ (show (392 : Nat) ≠ 393 by decide)]; exact hs2
    · rw [b3]; exact tkf_lit (va_up_self _ _ _) (by decide)
  · rw [see_in b1, if_pos (show (0 : Int32) ≤ ri 387 s from Int32.le_iff_toInt_le.mpr (hb s b1)), mD_1 b2, if_neg (show ¬ (1 : Int32) = 0 by decide)]
    try simp only [↓ap1_n]
    have w7 : va_up (va_up I2 393 1) 394 0 391 = I2 391 := by rw [va_up_ne _ _ (show (391 : Nat) ≠ 394 by decide), va_up_ne _ _ (show (391 : Nat) ≠ 393 by decide)]
    rw [w7]
    obtain ⟨I', i1, i2, i3, i4⟩ := numR_L (J := J) (ri := ri) (rj := rj) (rq := rq) h3 ((300 - (I2 391).toInt).toNat + 1) (va_up (va_up I2 393 1) 394 0) s e (by rw [va_up_ne _ _ (show (388 : Nat) ≠ 394 by decide), va_up_ne _ _ (show (388 : Nat) ≠ 393 by decide)]; exact hn2) (by rw [w7]; exact hp2) (by omega) (by omega) b3
    refine ⟨I', J, i1, i2, ?_, ?_, fun f f1 f2 f3 f4 => by rw [i4 f f1 f4, va_up_ne _ _ f4, va_up_ne _ _ f3]; exact fr f f1 f2, fun _ _ => rfl⟩
    · rw [i4 392 (by decide) (by decide), va_up_ne _ _ (show (392 : Nat) ≠ 394 by decide), va_up_ne _ _ (show (392 : Nat) ≠ 393 by decide)]; exact hs2
    · rw [b4]
      refine tkf_num (by rw [i4 393 (by decide) (by decide), va_up_ne _ _ (show (393 : Nat) ≠ 394 by decide), va_up_self]) ?_
      rw [i3, va_up_self, b5]
      exact nv_eq (e - s) s 0 0 (fun j h1 h2 => b3.2.2.1 j h1 (by omega)) (Or.inl ⟨by decide, by decide, rfl⟩)
  · have nd : ¬ dgt (ri 387 s) := fun q => by unfold dgt at q; unfold ltr at b2; omega
    rw [see_in b1, if_pos (show (0 : Int32) ≤ ri 387 s from Int32.le_iff_toInt_le.mpr (hb s b1)), mD_0 nd, if_pos (show (0 : Int32) = 0 from rfl), mL_1 b2, if_neg (show ¬ (1 : Int32) = 0 by decide)]
    try simp only [↓ap1_n]
    have w7 : va_up I2 393 2 391 = I2 391 := va_up_ne _ _ (by decide)
    rw [w7]
    obtain ⟨I', J', i1, i2, i3, i4, i5⟩ := wordR_L (ri := ri) (rj := rj) (rq := rq) h3 ((300 - (I2 391).toInt).toNat + 1) (va_up I2 393 2) (va_up J 395 0) s s e (by rw [va_up_ne _ _ (show (388 : Nat) ≠ 393 by decide)]; exact hn2) (by rw [w7]; exact hp2) (by rw [va_up_ne _ _ (show (392 : Nat) ≠ 393 by decide)]; exact hs2) (Nat.le_refl _) (by omega) (by omega) b3 (by omega) (by
      rw [va_up_self, if_pos (show s - s ≤ 7 by omega), Nat.sub_self]
      rfl)
    refine ⟨I', J', i1, i2, ?_, ?_, fun f f1 f2 f3 f4 => by rw [i4 f f1, va_up_ne _ _ f3]; exact fr f f1 f2, fun f hf => (i5 f hf).trans (va_up_ne _ _ hf)⟩
    · rw [i4 392 (by decide), va_up_ne _ _ (show (392 : Nat) ≠ 393 by decide)]; exact hs2
    · rw [b4, wtk_N b3]
      refine tkf_wd (by rw [i4 393 (by decide), va_up_self]) i3 ?_
      unfold wdN
      by_cases q : e - s ≤ 7
      · rw [if_pos q]
        have := pkN_lt (e - s) (ltr_byt b3 (e - s) (by omega))
        have h7 : 256 ^ (e - s) ≤ 256 ^ 7 := Nat.pow_le_pow_right (by decide) q
        have h8 : 256 ^ 7 < 2 ^ 63 := by decide
        omega
      · rw [if_neg q]; decide
  · rw [see_in b1, if_pos (show (0 : Int32) ≤ ri 387 s from Int32.le_iff_toInt_le.mpr (hb s b1)), mD_0 b2, if_pos (show (0 : Int32) = 0 from rfl), mL_0 b3, if_pos (show (0 : Int32) = 0 from rfl)]
    simp only [↓ap1_n, K327_a, K332_a]
    have hp3 : (va_up I2 391 (I1 391 + 1) 391).toInt = ((s + 1 : Nat) : Int) := by rw [va_up_self]; exact upN a2 (by omega)
    have hn3 : (va_up I2 391 (I1 391 + 1) 388).toInt = (n : Int) := by rw [va_up_ne _ _ (show (388 : Nat) ≠ 391 by decide)]; exact hn2
    have done : ∀ I' : Nat → Int32, (I' 391).toInt = (sgE (ri 387) n s : Int) → I' 393 = sgR (ri 387) n s → (∀ f, f ≠ 391 → f ≠ 393 → I' f = va_up I2 391 (I1 391 + 1) f) → (I' 391).toInt = (e : Int) ∧ (I' 392).toInt = (s : Int) ∧ TKF I' J c v ∧ (∀ f, f ≠ 391 → f ≠ 392 → f ≠ 393 → f ≠ 394 → I' f = I f) ∧ ∀ f, f ≠ 395 → J f = J f := fun I' g1 g2 g3 => by
      refine ⟨by rw [g1, b4], by rw [g3 392 (by decide) (by decide), va_up_ne _ _ (show (392 : Nat) ≠ 391 by decide)]; exact hs2, ?_, fun f f1 f2 f3 _ => by rw [g3 f f1 f3, va_up_ne _ _ f1]; exact fr f f1 f2, fun _ _ => rfl⟩
      rw [b5]
      exact tkf_lit g2 sg_pair
    have yes : (ri 387 s = 60 ∨ ri 387 s = 62 ∨ ri 387 s = 61 ∨ ri 387 s = 35 ∨ ri 387 s = 43 ∨ ri 387 s = 45 ∨ ri 387 s = 42 ∨ ri 387 s = 47 ∨ ri 387 s = 40 ∨ ri 387 s = 41 ∨ ri 387 s = 44 ∨ ri 387 s = 59) → ∃ I' J', g_X12_nextToken_x_K343_2 J ri rj rq (ri 387 s) (va_up I2 391 (I1 391 + 1)) = (I', J', ri, rj, rq) ∧ (I' 391).toInt = (e : Int) ∧ (I' 392).toInt = (s : Int) ∧ TKF I' J' c v ∧ (∀ f, f ≠ 391 → f ≠ 392 → f ≠ 393 → f ≠ 394 → I' f = I f) ∧ ∀ f, f ≠ 395 → J' f = J f := fun hy => by
      obtain ⟨I', i1, i2, i3, i4⟩ := sign_2 (J := J) (ri := ri) (rj := rj) (rq := rq) hn3 hp3 h3 b1
      refine ⟨I', J, i1, done I' (by rw [i2, sgE_R]) ?_ i4⟩
      rw [i3]
      unfold sgR
      by_cases x0 : ri 387 s = 60
      · rw [if_pos x0, if_pos x0]
      rw [if_neg x0, if_neg x0]
      by_cases x1 : ri 387 s = 62
      · rw [if_pos x1, if_pos x1]
      rw [if_neg x1, if_neg x1]
      rcases hy with y | y | y | y | y | y | y | y | y | y | y | y
      · exact absurd y x0
      · exact absurd y x1
      · rw [y, if_pos (show (61 : Int32) = 61 from rfl)]
      · rw [y, if_neg (show ¬ (35 : Int32) = 61 by decide), if_pos (show (35 : Int32) = 35 from rfl)]
      · rw [y, if_neg (show ¬ (43 : Int32) = 61 by decide), if_neg (show ¬ (43 : Int32) = 35 by decide), if_pos (show (43 : Int32) = 43 from rfl)]
      · rw [y, if_neg (show ¬ (45 : Int32) = 61 by decide), if_neg (show ¬ (45 : Int32) = 35 by decide), if_neg (show ¬ (45 : Int32) = 43 by decide), if_pos (show (45 : Int32) = 45 from rfl)]
      · rw [y, if_neg (show ¬ (42 : Int32) = 61 by decide), if_neg (show ¬ (42 : Int32) = 35 by decide), if_neg (show ¬ (42 : Int32) = 43 by decide), if_neg (show ¬ (42 : Int32) = 45 by decide), if_pos (show (42 : Int32) = 42 from rfl)]
      · rw [y, if_neg (show ¬ (47 : Int32) = 61 by decide), if_neg (show ¬ (47 : Int32) = 35 by decide), if_neg (show ¬ (47 : Int32) = 43 by decide), if_neg (show ¬ (47 : Int32) = 45 by decide), if_neg (show ¬ (47 : Int32) = 42 by decide), if_pos (show (47 : Int32) = 47 from rfl)]
      · rw [y, if_neg (show ¬ (40 : Int32) = 61 by decide), if_neg (show ¬ (40 : Int32) = 35 by decide), if_neg (show ¬ (40 : Int32) = 43 by decide), if_neg (show ¬ (40 : Int32) = 45 by decide), if_neg (show ¬ (40 : Int32) = 42 by decide), if_neg (show ¬ (40 : Int32) = 47 by decide), if_pos (show (40 : Int32) = 40 from rfl)]
      · rw [y, if_neg (show ¬ (41 : Int32) = 61 by decide), if_neg (show ¬ (41 : Int32) = 35 by decide), if_neg (show ¬ (41 : Int32) = 43 by decide), if_neg (show ¬ (41 : Int32) = 45 by decide), if_neg (show ¬ (41 : Int32) = 42 by decide), if_neg (show ¬ (41 : Int32) = 47 by decide), if_neg (show ¬ (41 : Int32) = 40 by decide), if_pos (show (41 : Int32) = 41 from rfl)]
      · rw [y, if_neg (show ¬ (44 : Int32) = 61 by decide), if_neg (show ¬ (44 : Int32) = 35 by decide), if_neg (show ¬ (44 : Int32) = 43 by decide), if_neg (show ¬ (44 : Int32) = 45 by decide), if_neg (show ¬ (44 : Int32) = 42 by decide), if_neg (show ¬ (44 : Int32) = 47 by decide), if_neg (show ¬ (44 : Int32) = 40 by decide), if_neg (show ¬ (44 : Int32) = 41 by decide), if_pos (show (44 : Int32) = 44 from rfl)]
      · rw [y, if_neg (show ¬ (59 : Int32) = 61 by decide), if_neg (show ¬ (59 : Int32) = 35 by decide), if_neg (show ¬ (59 : Int32) = 43 by decide), if_neg (show ¬ (59 : Int32) = 45 by decide), if_neg (show ¬ (59 : Int32) = 42 by decide), if_neg (show ¬ (59 : Int32) = 47 by decide), if_neg (show ¬ (59 : Int32) = 40 by decide), if_neg (show ¬ (59 : Int32) = 41 by decide), if_neg (show ¬ (59 : Int32) = 44 by decide), if_pos (show (59 : Int32) = 59 from rfl)]
    by_cases x0 : ri 387 s = 60
    · rw [if_pos x0]; exact yes (Or.inl x0)
    rw [if_neg x0]
    by_cases x1 : ri 387 s = 62
    · rw [if_pos x1]; exact yes (Or.inr (Or.inl x1))
    rw [if_neg x1]
    by_cases x2 : ri 387 s = 61
    · rw [if_pos x2]; exact yes (Or.inr (Or.inr (Or.inl x2)))
    rw [if_neg x2]
    by_cases x3 : ri 387 s = 35
    · rw [if_pos x3]; exact yes (Or.inr (Or.inr (Or.inr (Or.inl x3))))
    rw [if_neg x3]
    by_cases x4 : ri 387 s = 43
    · rw [if_pos x4]; exact yes (Or.inr (Or.inr (Or.inr (Or.inr (Or.inl x4)))))
    rw [if_neg x4]
    by_cases x5 : ri 387 s = 45
    · rw [if_pos x5]; exact yes (Or.inr (Or.inr (Or.inr (Or.inr (Or.inr (Or.inl x5))))))
    rw [if_neg x5]
    by_cases x6 : ri 387 s = 42
    · rw [if_pos x6]; exact yes (Or.inr (Or.inr (Or.inr (Or.inr (Or.inr (Or.inr (Or.inl x6)))))))
    rw [if_neg x6]
    by_cases x7 : ri 387 s = 47
    · rw [if_pos x7]; exact yes (Or.inr (Or.inr (Or.inr (Or.inr (Or.inr (Or.inr (Or.inr (Or.inl x7))))))))
    rw [if_neg x7]
    by_cases x8 : ri 387 s = 40
    · rw [if_pos x8]; exact yes (Or.inr (Or.inr (Or.inr (Or.inr (Or.inr (Or.inr (Or.inr (Or.inr (Or.inl x8)))))))))
    rw [if_neg x8]
    by_cases x9 : ri 387 s = 41
    · rw [if_pos x9]; exact yes (Or.inr (Or.inr (Or.inr (Or.inr (Or.inr (Or.inr (Or.inr (Or.inr (Or.inr (Or.inl x9))))))))))
    rw [if_neg x9]
    by_cases x10 : ri 387 s = 44
    · rw [if_pos x10]; exact yes (Or.inr (Or.inr (Or.inr (Or.inr (Or.inr (Or.inr (Or.inr (Or.inr (Or.inr (Or.inr (Or.inl x10)))))))))))
    rw [if_neg x10]
    by_cases x11 : ri 387 s = 59
    · rw [if_pos x11]; exact yes (Or.inr (Or.inr (Or.inr (Or.inr (Or.inr (Or.inr (Or.inr (Or.inr (Or.inr (Or.inr (Or.inr (x11))))))))))))
    rw [if_neg x11]
    obtain ⟨I', i1, i2, i3, i4⟩ := sign_0 (J := J) (ri := ri) (rj := rj) (rq := rq) hp3 x0 x1
    refine ⟨I', J, i1, done I' ?_ ?_ i4⟩
    · rw [i2, sgE_R, if_neg (show ¬ ((ri 387 s = 60 ∨ ri 387 s = 62) ∧ s + 1 < n ∧ ri 387 (s + 1) = 61) from fun y => by rcases y.1 with z | z; exact x0 z; exact x1 z)]
    · rw [i3]
      unfold sgR
      rw [if_neg x0, if_neg x1, if_neg x2, if_neg x3, if_neg x4, if_neg x5, if_neg x6, if_neg x7, if_neg x8, if_neg x9, if_neg x10, if_neg x11]
end PR2
