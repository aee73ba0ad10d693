/-! ===== pure: BOATS of both sides (behind pk7) ===== -/
section PK8
variable {I : Nat → Int32} {J : Nat → Int64} {ri : Nat → Nat → Int32} {rj : Nat → Nat → Int64} {rq : Nat → Nat → Option Nat}
variable {U : Nat → Int32} {V : Nat → Int64} {si : Nat → Nat → Int32} {sj : Nat → Nat → Int64} {sq : Nat → Nat → Option Nat}
variable {A0 : Nat → Int32} {B0 : Nat → Bool} {g r : Nat → Nat} {N L : Nat} {so : Int64}
/-- the group of a PERSON: RING and KIN -/
def giN (A0 : Nat → Int32) (q : Nat) : Nat := (A0 (740 + 12 * q + 3) * 10 + A0 (740 + 12 * q)).toNatClampNeg
/-- where a PERSON is whose group has the LOT d, or none -/
def pvL (A0 : Nat → Int32) (d : Int32) (q : Nat) : Int32 := if d = -1 then A0 (740 + 12 * q + 3) else 100 + d
/-- who may go is on a RING -/
def RNG (A0 : Nat → Int32) (B0 : Nat → Bool) (N : Nat) : Prop := ∀ q, q < N → B0 q = true → (0 ≤ (A0 (740 + 12 * q + 3)).toInt ∧ (A0 (740 + 12 * q + 3)).toInt < 5) ∧ (0 ≤ (A0 (740 + 12 * q)).toInt ∧ (A0 (740 + 12 * q)).toInt ≤ 9)
theorem gi_v (h : RNG A0 B0 N) {q : Nat} (hq : q < N) (hb : B0 q = true) : (giN A0 q : Int) = (A0 (740 + 12 * q + 3)).toInt * 10 + (A0 (740 + 12 * q)).toInt := by
  obtain ⟨⟨a, b⟩, c, d⟩ := h q hq hb
  have e := i_add (i_mul (show (A0 (740 + 12 * q + 3)).toInt = (A0 (740 + 12 * q + 3)).toInt from rfl) (show (10 : Int32).toInt = 10 by decide) (by omega) (by omega)) (show (A0 (740 + 12 * q)).toInt = (A0 (740 + 12 * q)).toInt from rfl) (by omega) (by omega)
  have z := clampE (A0 (740 + 12 * q + 3) * 10 + A0 (740 + 12 * q))
  unfold giN
  omega
theorem gi_50 (h : RNG A0 B0 N) {q : Nat} (hq : q < N) (hb : B0 q = true) : giN A0 q < 50 := by
  have e := gi_v h hq hb
  obtain ⟨⟨a, b⟩, c, d⟩ := h q hq hb
  omega
theorem gi_inj (h : RNG A0 B0 N) {q p : Nat} (hq : q < N) (hbq : B0 q = true) (hp : p < N) (hbp : B0 p = true) : giN A0 q = giN A0 p ↔ (A0 (740 + 12 * q) = A0 (740 + 12 * p) ∧ A0 (740 + 12 * q + 3) = A0 (740 + 12 * p + 3)) := by
  have e1 := gi_v h hq hbq
  have e2 := gi_v h hp hbp
  obtain ⟨⟨a, b⟩, c, d⟩ := h q hq hbq
  obtain ⟨⟨a', b'⟩, c', d'⟩ := h p hp hbp
  constructor
  · intro y
    exact ⟨Int32.toInt_inj.mp (by omega), Int32.toInt_inj.mp (by omega)⟩
  · rintro ⟨y1, y2⟩
    unfold giN
    rw [y1, y2]
/-- those of P's group who may go -/
def gpB (A0 : Nat → Int32) (B0 : Nat → Bool) (P q : Nat) : Bool := B0 q && decide (giN A0 q = giN A0 P)
/-- what holds when the first i of the queue have been asked -/
def INVb (A0 : Nat → Int32) (B0 : Nat → Bool) (g : Nat → Nat) (N L i : Nat) (R s : Nat → Nat → Int32) : Prop := (∀ q, q < N → B0 q = true → q ∉ dl g i → R 5 q = A0 (740 + 12 * q + 3)) ∧ (∀ q, q < N → B0 q = true → q ∈ dl g i → R 15 (giN A0 q) ≠ -2 ∧ R 5 q = pvL A0 (R 15 (giN A0 q)) q) ∧ (∀ q, q < 40 → ¬ (q < N ∧ B0 q = true) → R 5 q = A0 (740 + 12 * q + 3) ∧ s 384 (740 + 12 * q + 3) = A0 (740 + 12 * q + 3)) ∧ (∀ q, q < N → B0 q = true → s 384 (740 + 12 * q + 3) = (if R 15 (giN A0 q) = -2 then A0 (740 + 12 * q + 3) else pvL A0 (R 15 (giN A0 q)) q)) ∧ (∀ q, q < N → (s 412 q = 0 ↔ (B0 q = true ∧ R 15 (giN A0 q) = -2))) ∧ (∀ q, q < N → B0 q = true → R 14 (giN A0 q) = Int32.ofNat (cbN (gpB A0 B0 q) N)) ∧ (∀ l, l < L → R 13 l = frE (s 384) N l) ∧ (∀ q, q < N → B0 q = true → R 15 (giN A0 q) = -2 ∨ R 15 (giN A0 q) = -1 ∨ ∃ l, l < L ∧ R 15 (giN A0 q) = Int32.ofNat l) ∧ ∀ j, (∀ q k, q < 40 → k ∈ [3, 7] → j ≠ 740 + 12 * q + k) → s 384 j = A0 j
theorem n37 {q p k : Nat} (hk : k ∈ [3, 7]) : 740 + 12 * q ≠ 740 + 12 * p + k := by
  simp only [List.mem_cons, List.not_mem_nil, or_false] at hk
  omega
theorem ofN_ne {j : Nat} (hj : j < 100) : Int32.ofNat j ≠ -1 ∧ Int32.ofNat j ≠ -2 := by
  have h := ofN_t (n := j) (by omega)
  have k1 : (-1 : Int32).toInt = -1 := by decide
  have k2 : (-2 : Int32).toInt = -2 := by decide
  exact ⟨fun y => by rw [y] at h; omega, fun y => by rw [y] at h; omega⟩
/-- the class: p goes to the LOT of its group, or doesn't -/
theorem k165_v {a4 x2 p' xg left : Int32} {k : Int32 → Int32 → (Nat → Nat → Int32) → vM} {R : Nat → Nat → Int32} {P G : Nat} (hp : p'.toInt = (P : Int)) (hG : xg.toNatClampNeg = G) : ∃ R' : Nat → Nat → Int32, g_X0_board_331_K165 a4 x2 k p' xg left R = k left (x2 + Int32.ofInt 1) R' ∧ (∀ t, t ≠ 5 → t ≠ 8 → R' t = R t) ∧ R' 5 = (if R 15 G = -1 then R 5 else upd (R 5) P (100 + R 15 G)) := by
  rw [g_X0_board_331_K165_e]
  simp only [↓ap1_n, g_X0_board_331_K202]
  rw [hG, at_n hp]
  by_cases c : R 15 G = -1
  · rw [if_pos c]
    exact ⟨R, rfl, fun _ _ _ => rfl, by rw [if_pos c]⟩
  · rw [if_neg c]
    refine ⟨_, rfl, fun t h5 h8 => by rw [va_up_ne _ _ h8, va_up_ne _ _ h5], ?_⟩
    rw [if_neg c, va_up_ne _ _ (show (5 : Nat) ≠ 8 by decide), va_up_self]
theorem k137_v {a4 x1 x2 p' xg v : Int32} {k : Int32 → Int32 → (Nat → Nat → Int32) → vM} {R : Nat → Nat → Int32} {P G : Nat} (hp : p'.toInt = (P : Int)) (hG : xg.toNatClampNeg = G) : ∃ R' : Nat → Nat → Int32, g_X0_board_331_K137 a4 x1 x2 k p' xg v R = k (x1 - (if v = -1 then 0 else R 14 G)) (x2 + Int32.ofInt 1) R' ∧ (∀ t, t ≠ 5 → t ≠ 8 → t ≠ 15 → R' t = R t) ∧ R' 15 = upd (R 15) G v ∧ R' 5 = (if v = -1 then R 5 else upd (R 5) P (100 + v)) := by
  have e15 : va_up R 15 (upd (R 15) G v) 15 = upd (R 15) G v := va_up_self _ _ _
  rw [g_X0_board_331_K137_e]
  simp only [↓ap1_n, g_X0_board_331_K162]
  rw [hG, e15, upd_s]
  by_cases c : v = -1
  · obtain ⟨R', f1, f2, f3⟩ := k165_v (a4 := a4) (x2 := x2) (left := x1 - 0) (k := k) (R := va_up R 15 (upd (R 15) G v)) hp hG
    rw [if_pos c, if_pos c, f1]
    refine ⟨R', rfl, fun t h5 h8 h15 => (f2 t h5 h8).trans (va_up_ne _ _ h15), (f2 15 (by decide) (by decide)).trans e15, ?_⟩
    rw [f3, e15, upd_s, if_pos c, if_pos c, va_up_ne _ _ (show (5 : Nat) ≠ 15 by decide)]
  · obtain ⟨R', f1, f2, f3⟩ := k165_v (a4 := a4) (x2 := x2) (left := x1 - R 14 G) (k := k) (R := va_up R 15 (upd (R 15) G v)) hp hG
    rw [if_neg c, if_neg c, va_up_ne _ _ (show (14 : Nat) ≠ 15 by decide), f1]
    refine ⟨R', rfl, fun t h5 h8 h15 => (f2 t h5 h8).trans (va_up_ne _ _ h15), (f2 15 (by decide) (by decide)).trans e15, ?_⟩
    rw [f3, e15, upd_s, if_neg c, if_neg c, va_up_ne _ _ (show (5 : Nat) ≠ 15 by decide)]
theorem mny_cg {A B : Nat → Int32} {v : Int32} (h : ∀ q, q < N → B (740 + 12 * q + 3) = A (740 + 12 * q + 3)) : mny B N v = mny A N v := cbN_cg N (fun q hq => by rw [h q hq])
/-- who goes with P: those of its group who may -/
theorem fm_gp {i P : Nat} {R s : Nat → Nat → Int32} (hR : RNG A0 B0 N) (h : INVb A0 B0 g N L i R s) (hP : P < N) (hB : B0 P = true) (hun : R 15 (giN A0 P) = -2) : ∀ q, q < N → fmM s P q = gpB A0 B0 P q := by
  obtain ⟨ha, hb, hc, hd, he, hf, hg, hh, hk⟩ := h
  have kin : ∀ q, s 384 (740 + 12 * q) = A0 (740 + 12 * q) := fun q => hk _ (fun p k _ hk2 => n37 hk2)
  intro q hq
  have sP : s 384 (740 + 12 * P + 3) = A0 (740 + 12 * P + 3) := by rw [hd P hP hB, if_pos hun]
  by_cases b : B0 q = true
  · by_cases e : giN A0 q = giN A0 P
    · have z : s 412 q = 0 := (he q hq).mpr ⟨b, by rw [e]; exact hun⟩
      have sq' : s 384 (740 + 12 * q + 3) = A0 (740 + 12 * q + 3) := by rw [hd q hq b, e, if_pos hun]
      obtain ⟨e1, e2⟩ := (gi_inj hR hq b hP hB).mp e
      unfold fmM gpB
      rw [decide_eq_true ⟨z, by rw [kin, kin]; exact e1, by rw [sq', sP]; exact e2⟩, b, decide_eq_true e]
      rfl
    · unfold fmM gpB
      rw [decide_eq_false e, Bool.and_false]
      refine decide_eq_false (fun y => e ?_)
      obtain ⟨y1, y2, y3⟩ := y
      have u := ((he q hq).mp y1).2
      rw [hd q hq b, if_pos u, sP] at y3
      rw [kin, kin] at y2
      exact (gi_inj hR hq b hP hB).mpr ⟨y2, y3⟩
  · unfold fmM gpB
    rw [show B0 q = false by simpa using b, Bool.false_and]
    exact decide_eq_false (fun y => b ((he q hq).mp y.1).1)
/-- a group is asked for the first time: what both sides come to -/
theorem inv_d {i P : Nat} {R s R1 s' : Nat → Nat → Int32} {v : Int32} (hR : RNG A0 B0 N) (hN : N ≤ 40) (hL : L ≤ 5) (hi : g i = P) (hP : P < N) (hB : B0 P = true) (hnew : P ∉ dl g i) (h : INVb A0 B0 g N L i R s) (hun : R 15 (giN A0 P) = -2) (hv : v = -1 ∨ ∃ j, j < L ∧ v = Int32.ofNat j) (h15 : R1 15 = upd (R 15) (giN A0 P) v) (h5 : R1 5 = (if v = -1 then R 5 else upd (R 5) P (100 + v))) (h14 : R1 14 = R 14) (h13 : R1 13 = (if v = -1 then R 13 else upd (R 13) v.toNatClampNeg (R 13 v.toNatClampNeg - Int32.ofNat (cbN (gpB A0 B0 P) N)))) (hF : FMW s s' N P (if v = -1 then none else some (100 + v))) : INVb A0 B0 g N L (i + 1) R1 s' := by
  have h0 := h
  obtain ⟨ha, hb, hc, hd, he, hf, hg, hh, hk⟩ := h
  obtain ⟨f1, f2, f3, f4⟩ := hF
  have mem : ∀ q, q ∈ dl g (i + 1) ↔ q = P ∨ q ∈ dl g i := fun q => by
    show q ∈ g i :: dl g i ↔ _
    rw [hi]
    exact List.mem_cons
  have vne : v ≠ -2 := by
    rcases hv with e | ⟨j, j1, e⟩
    · rw [e]; decide
    · rw [e]; exact (ofN_ne (by omega)).2
  have kin : ∀ q, s 384 (740 + 12 * q) = A0 (740 + 12 * q) := fun q => hk _ (fun p k _ hk2 => n37 hk2)
  -- who goes with P
  have fm := fm_gp hR h0 hP hB hun
  have r15 : ∀ q, giN A0 q = giN A0 P → R1 15 (giN A0 q) = v := fun q e => by rw [h15, e, upd_s]
  have r15n : ∀ q, ¬ giN A0 q = giN A0 P → R1 15 (giN A0 q) = R 15 (giN A0 q) := fun q e => by rw [h15, upd_n _ _ e]
  have r5n : ∀ q, q ≠ P → R1 5 q = R 5 q := fun q e => by
    rw [h5]
    split
    · rfl
    · exact upd_n _ _ e
  have gp_t : ∀ q, B0 q = true → giN A0 q = giN A0 P → gpB A0 B0 P q = true := fun q b e => by
    unfold gpB
    rw [b, decide_eq_true e]
    rfl
  have gp_f : ∀ q, ¬ (B0 q = true ∧ giN A0 q = giN A0 P) → gpB A0 B0 P q = false := fun q e => by
    unfold gpB
    by_cases b : B0 q = true
    · rw [b, decide_eq_false (fun y => e ⟨b, y⟩)]
      rfl
    · rw [show B0 q = false by simpa using b, Bool.false_and]
  -- places of the reference
  have pl : ∀ q, q < N → B0 q = true → s' 384 (740 + 12 * q + 3) = (if R1 15 (giN A0 q) = -2 then A0 (740 + 12 * q + 3) else pvL A0 (R1 15 (giN A0 q)) q) := fun q hq b => by
    rw [f3 q (by omega)]
    by_cases e : giN A0 q = giN A0 P
    · rw [r15 q e, if_neg vne]
      unfold pvL
      by_cases w : v = -1
      · rw [if_pos w, if_pos w]
        show s 384 (740 + 12 * q + 3) = A0 (740 + 12 * q + 3)
        rw [hd q hq b, e, if_pos hun]
      · rw [if_neg w, if_neg w]
        show (if q < N ∧ fmM s P q = true then 100 + v else s 384 (740 + 12 * q + 3)) = 100 + v
        rw [if_pos ⟨hq, by rw [fm q hq]; exact gp_t q b e⟩]
    · rw [r15n q e, ← hd q hq b]
      by_cases w : v = -1
      · rw [if_pos w]
      · rw [if_neg w]
        show (if q < N ∧ fmM s P q = true then 100 + v else s 384 (740 + 12 * q + 3)) = s 384 (740 + 12 * q + 3)
        rw [if_neg (fun y => by
          have := y.2
          rw [fm q hq, gp_f q (fun z => e z.2)] at this
          cases this)]
  refine ⟨fun q hq b hm => ?_, fun q hq b hm => ?_, fun q hq nb => ⟨?_, ?_⟩, pl, fun q hq => ?_, fun q hq b => by rw [h14]; exact hf q hq b, fun l hl => ?_, fun q hq b => ?_, fun j hj => by rw [f4 j hj]; exact hk j hj⟩
  · rw [r5n q (fun y => hm ((mem q).mpr (Or.inl y)))]
    exact ha q hq b (fun y => hm ((mem q).mpr (Or.inr y)))
  · by_cases e : q = P
    · rw [e, r15 P rfl]
      refine ⟨vne, ?_⟩
      rw [h5]
      unfold pvL
      by_cases w : v = -1
      · rw [if_pos w, if_pos w]
        exact ha P hP hB hnew
      · rw [if_neg w, if_neg w, upd_s]
    · have hm2 : q ∈ dl g i := by
        rcases (mem q).mp hm with y | y
        · exact absurd y e
        · exact y
      obtain ⟨z1, z2⟩ := hb q hq b hm2
      have ne : ¬ giN A0 q = giN A0 P := fun y => z1 (by rw [y]; exact hun)
      rw [r15n q ne, r5n q e]
      exact ⟨z1, z2⟩
  · have e : q ≠ P := fun y => nb (by rw [y]; exact ⟨hP, hB⟩)
    rw [r5n q e]
    exact (hc q hq nb).1
  · rw [f3 q hq]
    have nf : ¬ (q < N ∧ fmM s P q = true) := fun y => by
      have := y.2
      rw [fm q y.1, gp_f q (fun z => nb ⟨y.1, z.1⟩)] at this
      cases this
    by_cases w : v = -1
    · rw [if_pos w]
      exact (hc q hq nb).2
    · rw [if_neg w]
      show (if q < N ∧ fmM s P q = true then 100 + v else s 384 (740 + 12 * q + 3)) = _
      rw [if_neg nf]
      exact (hc q hq nb).2
  · rw [f2 q hq, fm q hq]
    by_cases e : B0 q = true ∧ giN A0 q = giN A0 P
    · rw [if_pos (gp_t q e.1 e.2), r15 q e.2]
      exact ⟨fun y => absurd y (by decide), fun y => absurd y.2 vne⟩
    · rw [if_neg (by rw [gp_f q e]; exact Bool.false_ne_true)]
      by_cases b : B0 q = true
      · rw [r15n q (fun y => e ⟨b, y⟩)]
        exact he q hq
      · exact ⟨fun y => absurd ((he q hq).mp y).1 b, fun y => absurd y.1 b⟩
  · have c80 : s' 384 (80 + l) = s 384 (80 + l) := f4 _ (fun q k _ hk2 => by simp only [List.mem_cons, List.not_mem_nil, or_false] at hk2; omega)
    rw [h13]
    rcases hv with w | ⟨j, j1, w⟩
    · rw [if_pos w, hg l hl]
      unfold frE
      rw [c80, mny_cg (A := s 384) (B := s' 384) (fun q hq => by rw [f3 q (by omega), if_pos w])]
    · have wn : ¬ v = -1 := by rw [w]; exact (ofN_ne (by omega)).1
      have jn : v.toNatClampNeg = j := by rw [w]; exact at_n (ofN_t (by omega))
      have f3' : ∀ q, q < N → s' 384 (740 + 12 * q + 3) = (if gpB A0 B0 P q = true then lotP j else s 384 (740 + 12 * q + 3)) := fun q hq => by
        rw [f3 q (by omega), if_neg wn]
        show (if q < N ∧ fmM s P q = true then 100 + v else s 384 (740 + 12 * q + 3)) = _
        rw [fm q hq, w]
        by_cases z : gpB A0 B0 P q = true
        · rw [if_pos ⟨hq, z⟩, if_pos z]
          rfl
        · rw [if_neg (fun y => z y.2), if_neg z]
      -- those who go were on a RING
      have ring : ∀ q, q < N → gpB A0 B0 P q = true → ∀ l2, s 384 (740 + 12 * q + 3) ≠ lotP l2 ∨ 1000 < l2 := fun q hq z l2 => by
        have b : B0 q = true ∧ giN A0 q = giN A0 P := by
          by_cases y : B0 q = true ∧ giN A0 q = giN A0 P
          · exact y
          · rw [gp_f q y] at z; cases z
        by_cases l3 : l2 ≤ 1000
        · refine Or.inl (fun y => ?_)
          have := congrArg Int32.toInt y
          rw [lotP_t l3, hd q hq b.1, b.2, if_pos hun] at this
          have := (hR q hq b.1).1
          omega
        · exact Or.inr (by omega)
      rw [if_neg wn, jn]
      by_cases e : l = j
      · rw [e, upd_s, hg j j1]
        unfold frE
        have m : mny (s' 384) N (lotP j) = mny (s 384) N (lotP j) + cbN (gpB A0 B0 P) N := cbN_2 N (fun q hq => by
          rw [f3' q hq]
          by_cases z : gpB A0 B0 P q = true
          · have nr : ¬ s 384 (740 + 12 * q + 3) = lotP j := by
              rcases ring q hq z j with y | y
              · exact y
              · omega
            rw [if_pos z, z, decide_eq_false nr, decide_eq_true rfl]
            exact ⟨rfl, rfl⟩
          · rw [if_neg z, show gpB A0 B0 P q = false by simpa using z, Bool.or_false, Bool.and_false]
            exact ⟨rfl, rfl⟩)
        rw [e] at c80
        rw [c80, m, Int32.ofNat_add]
        grind
      · rw [upd_n _ _ e, hg l hl]
        unfold frE
        have m : mny (s' 384) N (lotP l) = mny (s 384) N (lotP l) := cbN_cg N (fun q hq => by
          rw [f3' q hq]
          by_cases z : gpB A0 B0 P q = true
          · have nr : ¬ s 384 (740 + 12 * q + 3) = lotP l := by
              rcases ring q hq z l with y | y
              · exact y
              · omega
            have nj : ¬ lotP j = lotP l := fun y => by
              have := congrArg Int32.toInt y
              rw [lotP_t (by omega), lotP_t (by omega)] at this
              omega
            rw [if_pos z, decide_eq_false nr, decide_eq_false nj]
          · rw [if_neg z])
        rw [c80, m]
  · by_cases e : giN A0 q = giN A0 P
    · rw [r15 q e]
      exact Or.inr hv
    · rw [r15n q e]
      exact hh q hq b
end PK8
