/-! ===== pure: BOATS of both sides (behind pk7) ===== -/
section PK8
variable {I : Nat → Int32} {J : Nat → Int64} {ri : Nat → Nat → Int32} {rj : Nat → Nat → Int64} {rq : Nat → Nat → Option Nat}
variable {U : Nat → Int32} {V : Nat → Int64} {si : Nat → Nat → Int32} {sj : Nat → Nat → Int64} {sq : Nat → Nat → Option Nat}
variable {A0 : Nat → Int32} {B0 : Nat → Bool} {g r : Nat → Nat} {N L : Nat} {so : Int64}
/-- the group of a PERSON: RING and KIN -/
def giN (A0 : Nat → Int32) (q : Nat) : Nat := (A0 (740 + 12 * q + 3) * 10 + A0 (740 + 12 * q)).toNatClampNeg
/-- where a PERSON is whose group has the LOT d, or none -/
def pvL (A0 : Nat → Int32) (d : Int32) (q : Nat) : Int32 := if d = -1 then A0 (740 + 12 * q + 3) else 100 + d
/-- who may go is on a RING -/
def RNG (A0 : Nat → Int32) (B0 : Nat → Bool) (N : Nat) : Prop := ∀ q, q < N → B0 q = true → (0 ≤ (A0 (740 + 12 * q + 3)).toInt ∧ (A0 (740 + 12 * q + 3)).toInt < 5) ∧ (0 ≤ (A0 (740 + 12 * q)).toInt ∧ (A0 (740 + 12 * q)).toInt ≤ 9)
theorem gi_v (h : RNG A0 B0 N) {q : Nat} (hq : q < N) (hb : B0 q = true) : (giN A0 q : Int) = (A0 (740 + 12 * q + 3)).toInt * 10 + (A0 (740 + 12 * q)).toInt := by
  obtain ⟨⟨a, b⟩, c, d⟩ := h q hq hb
  have e := i_add (i_mul (show (A0 (740 + 12 * q + 3)).toInt = (A0 (740 + 12 * q + 3)).toInt from rfl) (show (10 : Int32).toInt = 10 by decide) (by omega) (by omega)) (show (A0 (740 + 12 * q)).toInt = (A0 (740 + 12 * q)).toInt from rfl) (by omega) (by omega)
  have z := clampE (A0 (740 + 12 * q + 3) * 10 + A0 (740 + 12 * q))
  unfold giN
  omega
theorem gi_50 (h : RNG A0 B0 N) {q : Nat} (hq : q < N) (hb : B0 q = true) : giN A0 q < 50 := by
  have e := gi_v h hq hb
  obtain ⟨⟨a, b⟩, c, d⟩ := h q hq hb
  omega
theorem gi_inj (h : RNG A0 B0 N) {q p : Nat} (hq : q < N) (hbq : B0 q = true) (hp : p < N) (hbp : B0 p = true) : giN A0 q = giN A0 p ↔ (A0 (740 + 12 * q) = A0 (740 + 12 * p) ∧ A0 (740 + 12 * q + 3) = A0 (740 + 12 * p + 3)) := by
  have e1 := gi_v h hq hbq
  have e2 := gi_v h hp hbp
  obtain ⟨⟨a, b⟩, c, d⟩ := h q hq hbq
  obtain ⟨⟨a', b'⟩, c', d'⟩ := h p hp hbp
  constructor
  · intro y
    exact ⟨Int32.toInt_inj.mp (by omega), Int32.toInt_inj.mp (by omega)⟩
  · rintro ⟨y1, y2⟩
    unfold giN
    rw [y1, y2]
/-- those of P's group who may go -/
def gpB (A0 : Nat → Int32) (B0 : Nat → Bool) (P q : Nat) : Bool := B0 q && decide (giN A0 q = giN A0 P)
/-- what holds when the first i of the queue have been asked -/
def INVb (A0 : Nat → Int32) (B0 : Nat → Bool) (g : Nat → Nat) (N L i : Nat) (R s : Nat → Nat → Int32) : Prop := (∀ q, q < N → B0 q = true → q ∉ dl g i → R 5 q = A0 (740 + 12 * q + 3)) ∧ (∀ q, q < N → B0 q = true → q ∈ dl g i → R 15 (giN A0 q) ≠ -2 ∧ R 5 q = pvL A0 (R 15 (giN A0 q)) q) ∧ (∀ q, q < 40 → ¬ (q < N ∧ B0 q = true) → R 5 q = A0 (740 + 12 * q + 3) ∧ s 384 (740 + 12 * q + 3) = A0 (740 + 12 * q + 3)) ∧ (∀ q, q < N → B0 q = true → s 384 (740 + 12 * q + 3) = (if R 15 (giN A0 q) = -2 then A0 (740 + 12 * q + 3) else pvL A0 (R 15 (giN A0 q)) q)) ∧ (∀ q, q < N → (s 412 q = 0 ↔ (B0 q = true ∧ R 15 (giN A0 q) = -2))) ∧ (∀ q, q < N → B0 q = true → R 14 (giN A0 q) = Int32.ofNat (cbN (gpB A0 B0 q) N)) ∧ (∀ l, l < L → R 13 l = frE (s 384) N l) ∧ (∀ q, q < N → B0 q = true → R 15 (giN A0 q) = -2 ∨ R 15 (giN A0 q) = -1 ∨ ∃ l, l < L ∧ R 15 (giN A0 q) = Int32.ofNat l) ∧ ∀ j, (∀ q k, q < 40 → k ∈ [3, 7] → j ≠ 740 + 12 * q + k) → s 384 j = A0 j
theorem n37 {q p k : Nat} (hk : k ∈ [3, 7]) : 740 + 12 * q ≠ 740 + 12 * p + k := by
  simp only [List.mem_cons, List.not_mem_nil, or_false] at hk
  omega
theorem ofN_ne {j : Nat} (hj : j < 100) : Int32.ofNat j ≠ -1 ∧ Int32.ofNat j ≠ -2 := by
  have h := ofN_t (n := j) (by omega)
  have k1 : (-1 : Int32).toInt = -1 := by decide
  have k2 : (-2 : Int32).toInt = -2 := by decide
  exact ⟨fun y => by rw [y] at h; omega, fun y => by rw [y] at h; omega⟩
/-- the class: p goes to the LOT of its group, or doesn't -/
theorem k165_v {a4 x2 p' xg left : Int32} {k : Int32 → Int32 → (Nat → Nat → Int32) → vM} {R : Nat → Nat → Int32} {P G : Nat} (hp : p'.toInt = (P : Int)) (hG : xg.toNatClampNeg = G) : ∃ R' : Nat → Nat → Int32, g_X0_board_331_K165 a4 x2 k p' xg left R = k left (x2 + Int32.ofInt 1) R' ∧ (∀ t, t ≠ 5 → t ≠ 8 → R' t = R t) ∧ R' 5 = (if R 15 G = -1 then R 5 else upd (R 5) P (100 + R 15 G)) := by
  rw [g_X0_board_331_K165_e]
  simp only [↓ap1_n, g_X0_board_331_K202]
  rw [hG, at_n hp]
  by_cases c : R 15 G = -1
  · rw [if_pos c]
    exact ⟨R, rfl, fun _ _ _ => rfl, by rw [if_pos c]⟩
  · rw [if_neg c]
    refine ⟨_, rfl, fun t h5 h8 => by rw [va_up_ne _ _ h8, va_up_ne _ _ h5], ?_⟩
    rw [if_neg c, va_up_ne _ _ (show (5 : Nat) ≠ 8 by decide), va_up_self]
theorem k137_v {a4 x1 x2 p' xg v : Int32} {k : Int32 → Int32 → (Nat → Nat → Int32) → vM} {R : Nat → Nat → Int32} {P G : Nat} (hp : p'.toInt = (P : Int)) (hG : xg.toNatClampNeg = G) : ∃ R' : Nat → Nat → Int32, g_X0_board_331_K137 a4 x1 x2 k p' xg v R = k (x1 - (if v = -1 then 0 else R 14 G)) (x2 + Int32.ofInt 1) R' ∧ (∀ t, t ≠ 5 → t ≠ 8 → t ≠ 15 → R' t = R t) ∧ R' 15 = upd (R 15) G v ∧ R' 5 = (if v = -1 then R 5 else upd (R 5) P (100 + v)) := by
  have e15 : va_up R 15 (upd (R 15) G v) 15 = upd (R 15) G v := va_up_self _ _ _
  rw [g_X0_board_331_K137_e]
  simp only [↓ap1_n, g_X0_board_331_K162]
  rw [hG, e15, upd_s]
  by_cases c : v = -1
  · obtain ⟨R', f1, f2, f3⟩ := k165_v (a4 := a4) (x2 := x2) (left := x1 - 0) (k := k) (R := va_up R 15 (upd (R 15) G v)) hp hG
    rw [if_pos c, if_pos c, f1]
    refine ⟨R', rfl, fun t h5 h8 h15 => (f2 t h5 h8).trans (va_up_ne _ _ h15), (f2 15 (by decide) (by decide)).trans e15, ?_⟩
    rw [f3, e15, upd_s, if_pos c, if_pos c, va_up_ne _ _ (show (5 : Nat) ≠ 15 by decide)]
  · obtain ⟨R', f1, f2, f3⟩ := k165_v (a4 := a4) (x2 := x2) (left := x1 - R 14 G) (k := k) (R := va_up R 15 (upd (R 15) G v)) hp hG
    rw [if_neg c, if_neg c, va_up_ne _ _ (show (14 : Nat) ≠ 15 by decide), f1]
    refine ⟨R', rfl, fun t h5 h8 h15 => (f2 t h5 h8).trans (va_up_ne _ _ h15), (f2 15 (by decide) (by decide)).trans e15, ?_⟩
    rw [f3, e15, upd_s, if_neg c, if_neg c, va_up_ne _ _ (show (5 : Nat) ≠ 15 by decide)]
theorem mny_cg {A B : Nat → Int32} {v : Int32} (h : ∀ q, q < N → B (740 + 12 * q + 3) = A (740 + 12 * q + 3)) : mny B N v = mny A N v := cbN_cg N (fun q hq => by rw [h q hq])
/-- who goes with P: those of its group who may -/
theorem fm_gp {i P : Nat} {R s : Nat → Nat → Int32} (hR : RNG A0 B0 N) (h : INVb A0 B0 g N L i R s) (hP : P < N) (hB : B0 P = true) (hun : R 15 (giN A0 P) = -2) : ∀ q, q < N → fmM s P q = gpB A0 B0 P q := by
  obtain ⟨ha, hb, hc, hd, he, hf, hg, hh, hk⟩ := h
  have kin : ∀ q, s 384 (740 + 12 * q) = A0 (740 + 12 * q) := fun q => hk _ (fun p k _ hk2 => n37 hk2)
  intro q hq
  have sP : s 384 (740 + 12 * P + 3) = A0 (740 + 12 * P + 3) := by rw [hd P hP hB, if_pos hun]
  by_cases b : B0 q = true
  · by_cases e : giN A0 q = giN A0 P
    · have z : s 412 q = 0 := (he q hq).mpr ⟨b, by rw [e]; exact hun⟩
      have sq' : s 384 (740 + 12 * q + 3) = A0 (740 + 12 * q + 3) := by rw [hd q hq b, e, if_pos hun]
      obtain ⟨e1, e2⟩ := (gi_inj hR hq b hP hB).mp e
      unfold fmM gpB
      rw [decide_eq_true ⟨z, by rw [kin, kin]; exact e1, by rw [sq', sP]; exact e2⟩, b, decide_eq_true e]
      rfl
    · unfold fmM gpB
      rw [decide_eq_false e, Bool.and_false]
      refine decide_eq_false (fun y => e ?_)
      obtain ⟨y1, y2, y3⟩ := y
      have u := ((he q hq).mp y1).2
      rw [hd q hq b, if_pos u, sP] at y3
      rw [kin, kin] at y2
      exact (gi_inj hR hq b hP hB).mpr ⟨y2, y3⟩
  · unfold fmM gpB
    rw [show B0 q = false by simpa using b, Bool.false_and]
    exact decide_eq_false (fun y => b ((he q hq).mp y.1).1)
/-- a group is asked for the first time: what both sides come to -/
theorem inv_d {i P : Nat} {R s R1 s' : Nat → Nat → Int32} {v : Int32} (hR : RNG A0 B0 N) (hN : N ≤ 40) (hL : L ≤ 5) (hi : g i = P) (hP : P < N) (hB : B0 P = true) (hnew : P ∉ dl g i) (h : INVb A0 B0 g N L i R s) (hun : R 15 (giN A0 P) = -2) (hv : v = -1 ∨ ∃ j, j < L ∧ v = Int32.ofNat j) (h15 : R1 15 = upd (R 15) (giN A0 P) v) (h5 : R1 5 = (if v = -1 then R 5 else upd (R 5) P (100 + v))) (h14 : R1 14 = R 14) (h13 : R1 13 = (if v = -1 then R 13 else upd (R 13) v.toNatClampNeg (R 13 v.toNatClampNeg - Int32.ofNat (cbN (gpB A0 B0 P) N)))) (hF : FMW s s' N P (if v = -1 then none else some (100 + v))) : INVb A0 B0 g N L (i + 1) R1 s' := by
  have h0 := h
  obtain ⟨ha, hb, hc, hd, he, hf, hg, hh, hk⟩ := h
  obtain ⟨f1, f2, f3, f4⟩ := hF
  have mem : ∀ q, q ∈ dl g (i + 1) ↔ q = P ∨ q ∈ dl g i := fun q => by
    show q ∈ g i :: dl g i ↔ _
    rw [hi]
    exact List.mem_cons
  have vne : v ≠ -2 := by
    rcases hv with e | ⟨j, j1, e⟩
    · rw [e]; decide
    · rw [e]; exact (ofN_ne (by omega)).2
  have kin : ∀ q, s 384 (740 + 12 * q) = A0 (740 + 12 * q) := fun q => hk _ (fun p k _ hk2 => n37 hk2)
  -- who goes with P
  have fm := fm_gp hR h0 hP hB hun
  have r15 : ∀ q, giN A0 q = giN A0 P → R1 15 (giN A0 q) = v := fun q e => by rw [h15, e, upd_s]
  have r15n : ∀ q, ¬ giN A0 q = giN A0 P → R1 15 (giN A0 q) = R 15 (giN A0 q) := fun q e => by rw [h15, upd_n _ _ e]
  have r5n : ∀ q, q ≠ P → R1 5 q = R 5 q := fun q e => by
    rw [h5]
    split
    · rfl
    · exact upd_n _ _ e
  have gp_t : ∀ q, B0 q = true → giN A0 q = giN A0 P → gpB A0 B0 P q = true := fun q b e => by
    unfold gpB
    rw [b, decide_eq_true e]
    rfl
  have gp_f : ∀ q, ¬ (B0 q = true ∧ giN A0 q = giN A0 P) → gpB A0 B0 P q = false := fun q e => by
    unfold gpB
    by_cases b : B0 q = true
    · rw [b, decide_eq_false (fun y => e ⟨b, y⟩)]
      rfl
    · rw [show B0 q = false by simpa using b, Bool.false_and]
  -- places of the reference
  have pl : ∀ q, q < N → B0 q = true → s' 384 (740 + 12 * q + 3) = (if R1 15 (giN A0 q) = -2 then A0 (740 + 12 * q + 3) else pvL A0 (R1 15 (giN A0 q)) q) := fun q hq b => by
    rw [f3 q (by omega)]
    by_cases e : giN A0 q = giN A0 P
    · rw [r15 q e, if_neg vne]
      unfold pvL
      by_cases w : v = -1
      · rw [if_pos w, if_pos w]
        show s 384 (740 + 12 * q + 3) = A0 (740 + 12 * q + 3)
        rw [hd q hq b, e, if_pos hun]
      · rw [if_neg w, if_neg w]
        show (if q < N ∧ fmM s P q = true then 100 + v else s 384 (740 + 12 * q + 3)) = 100 + v
        rw [if_pos ⟨hq, by rw [fm q hq]; exact gp_t q b e⟩]
    · rw [r15n q e, ← hd q hq b]
      by_cases w : v = -1
      · rw [if_pos w]
      · rw [if_neg w]
        show (if q < N ∧ fmM s P q = true then 100 + v else s 384 (740 + 12 * q + 3)) = s 384 (740 + 12 * q + 3)
        rw [if_neg (fun y => by
          have := y.2
          rw [fm q hq, gp_f q (fun z => e z.2)] at this
          cases this)]
  refine ⟨fun q hq b hm => ?_, fun q hq b hm => ?_, fun q hq nb => ⟨?_, ?_⟩, pl, fun q hq => ?_, fun q hq b => by rw [h14]; exact hf q hq b, fun l hl => ?_, fun q hq b => ?_, fun j hj => by rw [f4 j hj]; exact hk j hj⟩
  · rw [r5n q (fun y => hm ((mem q).mpr (Or.inl y)))]
    exact ha q hq b (fun y => hm ((mem q).mpr (Or.inr y)))
  · by_cases e : q = P
    · rw [e, r15 P rfl]
      refine ⟨vne, ?_⟩
      rw [h5]
      unfold pvL
      by_cases w : v = -1
      · rw [if_pos w, if_pos w]
        exact ha P hP hB hnew
      · rw [if_neg w, if_neg w, upd_s]
    · have hm2 : q ∈ dl g i := by
        rcases (mem q).mp hm with y | y
        · exact absurd y e
        · exact y
      obtain ⟨z1, z2⟩ := hb q hq b hm2
      have ne : ¬ giN A0 q = giN A0 P := fun y => z1 (by rw [y]; exact hun)
      rw [r15n q ne, r5n q e]
      exact ⟨z1, z2⟩
  · have e : q ≠ P := fun y => nb (by rw [y]; exact ⟨hP, hB⟩)
    rw [r5n q e]
    exact (hc q hq nb).1
  · rw [f3 q hq]
    have nf : ¬ (q < N ∧ fmM s P q = true) := fun y => by
      have := y.2
      rw [fm q y.1, gp_f q (fun z => nb ⟨y.1, z.1⟩)] at this
      cases this
    by_cases w : v = -1
    · rw [if_pos w]
      exact (hc q hq nb).2
    · rw [if_neg w]
      show (if q < N ∧ fmM s P q = true then 100 + v else s 384 (740 + 12 * q + 3)) = _
      rw [if_neg nf]
      exact (hc q hq nb).2
  · rw [f2 q hq, fm q hq]
    by_cases e : B0 q = true ∧ giN A0 q = giN A0 P
    · rw [if_pos (gp_t q e.1 e.2), r15 q e.2]
      exact ⟨fun y => absurd y (by decide), fun y => absurd y.2 vne⟩
    · rw [if_neg (by rw [gp_f q e]; exact Bool.false_ne_true)]
      by_cases b : B0 q = true
      · rw [r15n q (fun y => e ⟨b, y⟩)]
        exact he q hq
      · exact ⟨fun y => absurd ((he q hq).mp y).1 b, fun y => absurd y.1 b⟩
  · have c80 : s' 384 (80 + l) = s 384 (80 + l) := f4 _ (fun q k _ hk2 => by simp only [List.mem_cons, List.not_mem_nil, or_false] at hk2; omega)
    rw [h13]
    rcases hv with w | ⟨j, j1, w⟩
    · rw [if_pos w, hg l hl]
      unfold frE
      rw [c80, mny_cg (A := s 384) (B := s' 384) (fun q hq => by rw [f3 q (by omega), if_pos w])]
    · have wn : ¬ v = -1 := by rw [w]; exact (ofN_ne (by omega)).1
      have jn : v.toNatClampNeg = j := by rw [w]; exact at_n (ofN_t (by omega))
      have f3' : ∀ q, q < N → s' 384 (740 + 12 * q + 3) = (if gpB A0 B0 P q = true then lotP j else s 384 (740 + 12 * q + 3)) := fun q hq => by
        rw [f3 q (by omega), if_neg wn]
        show (if q < N ∧ fmM s P q = true then 100 + v else s 384 (740 + 12 * q + 3)) = _
        rw [fm q hq, w]
        by_cases z : gpB A0 B0 P q = true
        · rw [if_pos ⟨hq, z⟩, if_pos z]
          rfl
        · rw [if_neg (fun y => z y.2), if_neg z]
      -- those who go were on a RING
      have ring : ∀ q, q < N → gpB A0 B0 P q = true → ∀ l2, s 384 (740 + 12 * q + 3) ≠ lotP l2 ∨ 1000 < l2 := fun q hq z l2 => by
        have b : B0 q = true ∧ giN A0 q = giN A0 P := by
          by_cases y : B0 q = true ∧ giN A0 q = giN A0 P
          · exact y
          · rw [gp_f q y] at z; cases z
        by_cases l3 : l2 ≤ 1000
        · refine Or.inl (fun y => ?_)
          have := congrArg Int32.toInt y
          rw [lotP_t l3, hd q hq b.1, b.2, if_pos hun] at this
          have := (hR q hq b.1).1
          omega
        · exact Or.inr (by omega)
      rw [if_neg wn, jn]
      by_cases e : l = j
      · rw [e, upd_s, hg j j1]
        unfold frE
        have m : mny (s' 384) N (lotP j) = mny (s 384) N (lotP j) + cbN (gpB A0 B0 P) N := cbN_2 N (fun q hq => by
          rw [f3' q hq]
          by_cases z : gpB A0 B0 P q = true
          · have nr : ¬ s 384 (740 + 12 * q + 3) = lotP j := by
              rcases ring q hq z j with y | y
              · exact y
              · omega
            rw [if_pos z, z, decide_eq_false nr, decide_eq_true rfl]
            exact ⟨rfl, rfl⟩
          · rw [if_neg z, show gpB A0 B0 P q = false by simpa using z, Bool.or_false, Bool.and_false]
            exact ⟨rfl, rfl⟩)
        rw [e] at c80
        rw [c80, m, Int32.ofNat_add]
        grind
      · rw [upd_n _ _ e, hg l hl]
        unfold frE
        have m : mny (s' 384) N (lotP l) = mny (s 384) N (lotP l) := cbN_cg N (fun q hq => by
          rw [f3' q hq]
          by_cases z : gpB A0 B0 P q = true
          · have nr : ¬ s 384 (740 + 12 * q + 3) = lotP l := by
              rcases ring q hq z l with y | y
              · exact y
              · omega
            have nj : ¬ lotP j = lotP l := fun y => by
              have := congrArg Int32.toInt y
              rw [lotP_t (by omega), lotP_t (by omega)] at this
              omega
            rw [if_pos z, decide_eq_false nr, decide_eq_false nj]
          · rw [if_neg z])
        rw [c80, m]
  · by_cases e : giN A0 q = giN A0 P
    · rw [r15 q e]
      exact Or.inr hv
    · rw [r15n q e]
      exact hh q hq b
end PK8
/-! ===== pure: BOATS of both sides: the loops (behind pk8) ===== -/
section PK9
variable {I : Nat → Int32} {J : Nat → Int64} {ri : Nat → Nat → Int32} {rj : Nat → Nat → Int64} {rq : Nat → Nat → Option Nat}
variable {U : Nat → Int32} {V : Nat → Int64} {si : Nat → Nat → Int32} {sj : Nat → Nat → Int64} {sq : Nat → Nat → Option Nat}
variable {A0 : Nat → Int32} {B0 : Nat → Bool} {g r : Nat → Nat} {N L : Nat} {so : Int64}
/-- nobody twice -/
def NDL : List Nat → Prop
  | [] => True
  | q :: Q => q ∉ Q ∧ NDL Q
theorem rins_nd {lt : Nat → Nat → Bool} {p : Nat} : ∀ Q : List Nat, NDL Q → p ∉ Q → NDL (rins lt p Q)
  | [], _, _ => ⟨fun h => (by cases h), trivial⟩
  | q :: Q, h, hp => by
    show NDL (if lt p q = true then q :: rins lt p Q else p :: q :: Q)
    split
    · refine ⟨fun y => ?_, rins_nd Q h.2 (fun y => hp (List.mem_cons_of_mem _ y))⟩
      rcases rins_m Q q y with e | e
      · exact hp (e ▸ List.mem_cons_self ..)
      · exact h.1 e
    · exact ⟨hp, h⟩
theorem srt_nd {lt : Nat → Nat → Bool} : ∀ k, NDL (srt lt k)
  | 0 => trivial
  | k + 1 => rins_nd _ (srt_nd k) (fun h => absurd (srt_m k k h) (Nat.lt_irrefl _))
theorem dl_nd : ∀ (M i : Nat), i < M → NDL (dl g M) → g i ∉ dl g i
  | 0, _, h, _ => absurd h (Nat.not_lt_zero _)
  | M + 1, i, h, hn => by
    have hn' : g M ∉ dl g M ∧ NDL (dl g M) := hn
    by_cases e : i = M
    · rw [e]; exact hn'.1
    · exact dl_nd M i (by omega) hn'.2
/-- the reference's row are those of the queue who may -/
theorem dl_f : ∀ (M K : Nat), (dl g M).filter B0 = dl r K → ∀ i, i ≤ M → ∃ k, k ≤ K ∧ (dl g i).filter B0 = dl r k ∧ (i < M → B0 (g i) = true → k < K ∧ r k = g i)
  | 0, K, h, i, hi => ⟨K, Nat.le_refl _, by rw [show i = 0 by omega]; exact h, fun h => by omega⟩
  | M + 1, K, h, i, hi => by
    have h' : List.filter B0 (g M :: dl g M) = dl r K := h
    by_cases b : B0 (g M) = true
    · rw [List.filter_cons_of_pos b] at h'
      cases K with
      | zero => cases h'
      | succ K =>
        have h2 : g M :: (dl g M).filter B0 = r K :: dl r K := h'
        obtain ⟨e1, e2⟩ := List.cons.inj h2
        by_cases e : i = M + 1
        · rw [e]
          exact ⟨K + 1, Nat.le_refl _, h, fun y => by omega⟩
        · obtain ⟨k, k1, k2, k3⟩ := dl_f M K e2 i (by omega)
          by_cases em : i = M
          · rw [em] at k2 ⊢
            have : k = K := by
              have l := congrArg List.length (k2.symm.trans e2)
              have dll : ∀ n, (dl r n).length = n := fun n => by
                induction n with
                | zero => rfl
                | succ n ih => show (dl r n).length + 1 = n + 1; rw [ih]
              rw [dll, dll] at l
              exact l
            exact ⟨K, by omega, e2, fun _ _ => ⟨by omega, e1.symm⟩⟩
          · exact ⟨k, by omega, k2, fun _ y => by
              obtain ⟨a, c⟩ := k3 (by omega) y
              exact ⟨by omega, c⟩⟩
    · rw [List.filter_cons_of_neg b] at h'
      by_cases e : i = M + 1
      · rw [e]
        exact ⟨K, Nat.le_refl _, h, fun y => by omega⟩
      · obtain ⟨k, k1, k2, k3⟩ := dl_f M K h' i (by omega)
        by_cases em : i = M
        · rw [em] at k2 k3 ⊢
          exact ⟨k, k1, k2, fun _ y => absurd y b⟩
        · exact ⟨k, k1, k2, fun _ y => k3 (by omega) y⟩
theorem dl_l : ∀ n, (dl r n).length = n
  | 0 => rfl
  | n + 1 => by
    show (dl r n).length + 1 = n + 1
    rw [dl_l n]
/-- all are asked, both sides -/
theorem bs_sim {mo xN xK : Int32} {K : Nat} {row : Nat → Int32} {rw0 : Nat → Int32} {kn : Nat → Int32} {m : Nat → Nat → Int64} {I3 : Nat → Int32} (hR : RNG A0 B0 N) (hN : N ≤ 40) (hxN : xN.toInt = (N : Int)) (hxK : xK.toInt = (K : Int)) (hI10 : (I 10).toInt = (L : Int)) (hL : L ≤ 5) (h4 : (A0 4).toInt = (L : Int)) (h5 : (A0 5).toInt = (N : Int)) (hg : ∀ j, j < N → (rw0 j).toInt = (g j : Int) ∧ g j < N) (hr : ∀ k, k < K → (row k).toInt = (r k : Int)) (hfl : (dl g N).filter B0 = dl r K) (hnd : NDL (dl g N)) (hso : ∀ q, q < N → hb so q = B0 q) (hkn : ∀ q, q < 40 → kn q = A0 (740 + 12 * q)) : ∀ (n i : Nat) (x2 left : Int32) (R s : Nat → Nat → Int32) (k nm : Nat) (y2 : Int32), x2.toInt = (i : Int) → 40 - i < n → i ≤ N → y2.toInt = (k : Int) → 40 - k < nm → k ≤ K → K ≤ 40 → (dl g i).filter B0 = dl r k → R 331 = rw0 → R 1 = kn → s 411 = row → INVb A0 B0 g N L i R s → ∃ R' s' : Nat → Nat → Int32, g_X0_board_331_L43 so xN mo I J rj rq n left x2 R = (I, J, R', rj, rq) ∧ g_X12_boatsGo_L142 mo V sq I3 xK m nm left y2 s = (I3, V, s', m, sq) ∧ INVb A0 B0 g N L N R' s' := by
  have k0 : (0 : Int32).toInt = 0 := by decide
  have k40 : (40 : Int32).toInt = 40 := by decide
  intro n
  induction n with
  | zero => intro i _ _ _ _ _ _ _ _ h; exact absurd h (Nat.not_lt_zero _)
  | succ n ih =>
    intro i x2 left R s k nm y2 hx hn hi hy hnm hk hK hf h331 h1 h411 hv
    obtain ⟨nm, rfl⟩ : ∃ z, nm = z + 1 := ⟨nm - 1, by omega⟩
    rw [g_X0_board_331_L43_e]
    by_cases c : xN ≤ x2
    · have c1 := (le_n hxN hx).mp c
      have ei : i = N := by omega
      have ek : k = K := by
        rw [ei, hfl] at hf
        have := congrArg List.length hf
        rw [dl_l, dl_l] at this
        exact this.symm
      rw [if_pos c, g_X12_boatsGo_L142_e, if_pos ((le_n hxK hy).mpr (by omega))]
      rw [ei] at hv
      exact ⟨R, s, rfl, rfl, hv⟩
    · have c1 : ¬ N ≤ i := fun y => c ((le_n hxN hx).mpr y)
      obtain ⟨g1, g2⟩ := hg i (by omega)
      have nx := up_i hx (by omega)
      rw [if_neg c, if_neg (show ¬ (40 : Int32) ≤ x2 from fun y => by have := Int32.le_iff_toInt_le.mp y; omega)]
      simp only [↓ap1_n]
      rw [at_n hx, h331, hasBit_v (by omega) (by omega), at_n g1, hso _ g2]
      have hnew := dl_nd N i (by omega) hnd
      obtain ⟨ha, hb', hc, hd, he, hf', hg', hh, hk'⟩ := hv
      by_cases b : B0 (g i) = true
      · -- one who may
        obtain ⟨k2, k3, k4, k5⟩ := dl_f N K hfl i (by omega)
        have ekk : k2 = k := by
          have := congrArg List.length (k4.symm.trans hf)
          rw [dl_l, dl_l] at this
          exact this
        rw [ekk] at k5
        obtain ⟨kK, rk⟩ := k5 (by omega) b
        have nf : (dl g (i + 1)).filter B0 = dl r (k + 1) := by
          show List.filter B0 (g i :: dl g i) = r k :: dl r k
          rw [List.filter_cons_of_pos b, hf, rk]
        have ny := up_i hy (by omega)
        have h5P := ha (g i) g2 b hnew
        obtain ⟨⟨p0, p5⟩, _⟩ := hR (g i) g2 b
        have ring : g_X0_isOnRing (rw0 i) I J R rj rq = (1, I, J, R, rj, rq) := by
          rw [g_X0_isOnRing_e]
          simp only [↓ap1_n]
          rw [at_n g1, h5P, if_neg (fun y => by
            have := Int32.le_iff_toInt_le.mp y
            have k5' : (5 : Int32).toInt = 5 := by decide
            omega)]
        obtain ⟨xg, gr, gn⟩ : ∃ xg : Int32, g_X0_groupOf (rw0 i) I J R rj rq = (xg, I, J, R, rj, rq) ∧ xg.toNatClampNeg = giN A0 (g i) := by
          rw [g_X0_groupOf_e]
          simp only [↓ap1_n]
          rw [at_n g1, h5P, h1, hkn _ (by omega)]
          exact ⟨_, rfl, rfl⟩
        have rowk : (row k).toInt = (g i : Int) := by rw [hr k kK, rk]
        have nK : ¬ xK ≤ y2 := fun y => by
          have := (le_n hxK hy).mp y
          omega
        rw [if_pos b, if_neg (show ¬ (1 : Int32) = 0 by decide), ring, bnI_mk, if_neg (show ¬ (1 : Int32) = 0 by decide), gr, bnI_mk, gn, g_X12_boatsGo_L142_e, if_neg nK]
        simp only [↓ap1_n, g_X12_boatsGo_K182]
        rw [at_n hy, h411, at_n rowk]
        have hz := he (g i) g2
        by_cases u : R 15 (giN A0 (g i)) = -2
        · -- its group is asked for the first time
          have z : s 412 (g i) = 0 := hz.mpr ⟨b, u⟩
          have hM : fmM s (g i) (g i) = true := decide_eq_true ⟨z, rfl, rfl⟩
          have e4 : s 384 4 = A0 4 := hk' 4 (fun q k _ hk2 => by simp only [List.mem_cons, List.not_mem_nil, or_false] at hk2; omega)
          have e5 : s 384 5 = A0 5 := hk' 5 (fun q k _ hk2 => by simp only [List.mem_cons, List.not_mem_nil, or_false] at hk2; omega)
          have hv : INVb A0 B0 g N L i R s := ⟨ha, hb', hc, hd, he, hf', hg', hh, hk'⟩
          have cnt : cbN (fmM s (g i)) N = cbN (gpB A0 B0 (g i)) N := cbN_cg N (fun q hq => fm_gp hR hv g2 b u q hq)
          obtain ⟨s1, v1, v2⟩ := family_v (U := I3) (V := V) (si := s) (sj := m) (sq := sq) (a1 := mo) (a2 := left) (by rw [e5]; exact h5) hN (by rw [e4]; exact h4) hL rowk g2 hM
          rw [cnt] at v1 v2
          have h14 := hf' (g i) g2 b
          rw [if_pos u, if_pos z, v1, bnI_mk, h14]
          have cl := cbN_le (f := gpB A0 B0 (g i)) N
          have fl : fLot (R 13) (Int32.ofNat (cbN (gpB A0 B0 (g i)) N)) 0 L = fLot (frE (s 384) N) (Int32.ofNat (cbN (gpB A0 B0 (g i)) N)) 0 L := fLot_cg L 0 (fun l _ h2 => hg' l (by omega))
          have s411 : s1 411 = s 411 := v2.1 411 (by decide) (by decide)
          -- what both sides come to
          have fin : ∀ (v : Int32) (R0 : Nat → Nat → Int32), (v = -1 ∨ ∃ j, j < L ∧ v = Int32.ofNat j) → (∀ t, t ≠ 13 → R0 t = R t) → (R0 13 = (if v = -1 then R 13 else upd (R 13) v.toNatClampNeg (R 13 v.toNatClampNeg - Int32.ofNat (cbN (gpB A0 B0 (g i)) N)))) → FMW s s1 N (g i) (if v = -1 then none else some (100 + v)) → ∃ R' s' : Nat → Nat → Int32, g_X0_board_331_K137 mo left x2 (g_X0_board_331_L43 so xN mo I J rj rq n) (rw0 i) xg v R0 = (I, J, R', rj, rq) ∧ g_X12_boatsGo_L142 mo V sq I3 xK m nm (left - (if v = -1 then 0 else Int32.ofNat (cbN (gpB A0 B0 (g i)) N))) (y2 + Int32.ofInt 1) s1 = (I3, V, s', m, sq) ∧ INVb A0 B0 g N L N R' s' := fun v R0 hv1 hR0 hR13 hFM => by
            obtain ⟨R1, w1, w2, w3, w4⟩ := k137_v (a4 := mo) (x1 := left) (x2 := x2) (v := v) (k := g_X0_board_331_L43 so xN mo I J rj rq n) (R := R0) g1 gn
            rw [hR0 14 (by decide), h14] at w1
            rw [hR0 15 (by decide)] at w3
            rw [hR0 5 (by decide)] at w4
            rw [w1]
            exact ih (i + 1) _ _ R1 s1 (k + 1) nm _ nx (by omega) (by omega) ny (by omega) (by omega) hK nf ((w2 331 (by decide) (by decide) (by decide)).trans ((hR0 331 (by decide)).trans h331)) ((w2 1 (by decide) (by decide) (by decide)).trans ((hR0 1 (by decide)).trans h1)) (s411.trans h411) (inv_d hR hN hL rfl g2 b hnew hv u hv1 w3 w4 ((w2 14 (by decide) (by decide) (by decide)).trans (hR0 14 (by decide))) ((w2 13 (by decide) (by decide) (by decide)).trans hR13) hFM)
          by_cases q : left < Int32.ofNat (cbN (gpB A0 B0 (g i)) N)
          · rw [if_pos q, if_pos (Or.inl q)]
            rw [if_pos (Or.inl q)] at v2
            have := fin (-1) R (Or.inl rfl) (fun _ _ => rfl) (by rw [if_pos rfl]) (by rw [if_pos rfl]; exact v2)
            rw [if_pos (show (-1 : Int32) = -1 from rfl)] at this
            exact this
          · rw [if_neg q]
            obtain ⟨R2, t1, t2, t3, t4⟩ := takeLot_v (I := I) (J := J) (ri := R) (rj := rj) (rq := rq) (a0 := Int32.ofNat (cbN (gpB A0 B0 (g i)) N)) hI10 hL
            rw [t1, bnI_mk]
            rw [fl] at t3 t4 ⊢
            generalize fLot (frE (s 384) N) (Int32.ofNat (cbN (gpB A0 B0 (g i)) N)) 0 L = j at t3 t4 v2 ⊢
            by_cases w : j < L
            · have jn := ofN_ne (j := j) (by omega)
              have nq : ¬ (left < Int32.ofNat (cbN (gpB A0 B0 (g i)) N) ∨ L ≤ j) := fun y => by
                rcases y with y | y
                · exact q y
                · omega
              rw [if_neg nq] at v2
              rw [if_pos w, if_neg nq]
              have := fin (Int32.ofNat j) R2 (Or.inr ⟨j, w, rfl⟩) t2 (by rw [if_neg jn.1, at_n (ofN_t (by omega))]; exact t4 w) (by rw [if_neg jn.1]; exact v2)
              rw [if_neg jn.1] at this
              exact this
            · have yq : left < Int32.ofNat (cbN (gpB A0 B0 (g i)) N) ∨ L ≤ j := Or.inr (by omega)
              rw [if_pos yq] at v2
              rw [if_neg w, if_pos yq]
              have := fin (-1) R2 (Or.inl rfl) t2 (by rw [if_pos rfl, t3 (by omega)]) (by rw [if_pos rfl]; exact v2)
              rw [if_pos (show (-1 : Int32) = -1 from rfl)] at this
              exact this
        · -- its group has been asked
          have z : ¬ s 412 (g i) = 0 := fun y => u (hz.mp y).2
          rw [if_neg u, if_neg z]
          obtain ⟨R1, w1, w2, w3⟩ := k165_v (a4 := mo) (x2 := x2) (left := left) (k := g_X0_board_331_L43 so xN mo I J rj rq n) (R := R) g1 gn
          rw [w1]
          have r15 : R1 15 = R 15 := w2 15 (by decide) (by decide)
          have mem : ∀ q, q ∈ dl g (i + 1) ↔ q = g i ∨ q ∈ dl g i := fun q => by
            show q ∈ g i :: dl g i ↔ _
            exact List.mem_cons
          have r5n : ∀ q, q ≠ g i → R1 5 q = R 5 q := fun q e => by
            rw [w3]
            split
            · rfl
            · exact upd_n _ _ e
          refine ih (i + 1) _ _ R1 s (k + 1) nm _ nx (by omega) (by omega) ny (by omega) (by omega) hK nf ((w2 331 (by decide) (by decide)).trans h331) ((w2 1 (by decide) (by decide)).trans h1) h411 ⟨fun q hq b2 hm => ?_, fun q hq b2 hm => ?_, fun q hq nb => ⟨?_, (hc q hq nb).2⟩, ?_, ?_, ?_, ?_, ?_, hk'⟩
          · rw [r5n q (fun y => hm ((mem q).mpr (Or.inl y)))]
            exact ha q hq b2 (fun y => hm ((mem q).mpr (Or.inr y)))
          · rw [r15]
            by_cases e : q = g i
            · rw [e]
              refine ⟨u, ?_⟩
              rw [w3]
              unfold pvL
              by_cases y : R 15 (giN A0 (g i)) = -1
              · rw [if_pos y, if_pos y]
                exact h5P
              · rw [if_neg y, if_neg y, upd_s]
            · rw [r5n q e]
              exact hb' q hq b2 (by
                rcases (mem q).mp hm with y | y
                · exact absurd y e
                · exact y)
          · rw [r5n q (fun y => nb (by rw [y]; exact ⟨g2, b⟩))]
            exact (hc q hq nb).1
          · rw [r15]; exact hd
          · rw [r15]; exact he
          · rw [w2 14 (by decide) (by decide)]; exact hf'
          · rw [w2 13 (by decide) (by decide)]; exact hg'
          · rw [r15]; exact hh
      · -- one who may not
        have mem : ∀ q, q ∈ dl g (i + 1) ↔ q = g i ∨ q ∈ dl g i := fun q => by
          show q ∈ g i :: dl g i ↔ _
          exact List.mem_cons
        rw [if_neg b, if_pos (show (0 : Int32) = 0 from rfl), g_X0_board_331_K202_e]
        simp only [↓ap1_n]
        refine ih (i + 1) _ left R s k (nm + 1) y2 nx (by omega) (by omega) hy hnm hk hK ?_ h331 h1 h411 ⟨fun q hq b2 hm => ha q hq b2 (fun y => hm ((mem q).mpr (Or.inr y))), fun q hq b2 hm => hb' q hq b2 ?_, hc, hd, he, hf', hg', hh, hk'⟩
        · show List.filter B0 (g i :: dl g i) = dl r k
          rw [List.filter_cons_of_neg b]
          exact hf
        · rcases (mem q).mp hm with y | y
          · rw [y] at b2
            exact absurd b2 b
          · exact y
end PK9
/-! ===== pure: BOATS of both sides: all of it (behind pk9) ===== -/
section PK10
variable {I : Nat → Int32} {J : Nat → Int64} {ri : Nat → Nat → Int32} {rj : Nat → Nat → Int64} {rq : Nat → Nat → Option Nat}
variable {U : Nat → Int32} {V : Nat → Int64} {si : Nat → Nat → Int32} {sj : Nat → Nat → Int64} {sq : Nat → Nat → Option Nat}
variable {tI : Nat → Nat → Int32} {tR : Nat → Nat → Nat → Int32}
variable {A0 : Nat → Int32} {B0 : Nat → Bool} {g r : Nat → Nat} {N L : Nat} {so : Int64}
/-! the class -/
theorem cg_19 (hR : RNG A0 B0 N) (hN : N ≤ 40) (hI : (I 0).toInt = (N : Int)) (hso : ∀ q, q < N → hb so q = B0 q) (h5 : ∀ q, q < 40 → ri 5 q = A0 (740 + 12 * q + 3)) (h1 : ∀ q, q < 40 → ri 1 q = A0 (740 + 12 * q)) : ∀ (n k : Nat) (x : Int32) (R : Nat → Nat → Int32), x.toInt = (k : Int) → 40 - k < n → k ≤ N → (∀ t, t ≠ 14 → R t = ri t) → (∀ j, j < 50 → (R 14 j).toInt = (cbN (fun z => B0 z && decide (giN A0 z = j)) k : Int)) → ∃ R' : Nat → Nat → Int32, g_X0_countGroups_L19 so I J rj rq n x R = (I, J, R', rj, rq) ∧ (∀ t, t ≠ 14 → R' t = ri t) ∧ ∀ j, j < 50 → (R' 14 j).toInt = (cbN (fun z => B0 z && decide (giN A0 z = j)) N : Int) := by
  intro n
  induction n with
  | zero => intro k _ _ _ h; exact absurd h (Nat.not_lt_zero _)
  | succ n ih =>
    intro k x R hx hn hk hO hc
    rw [g_X0_countGroups_L19_e]
    simp only [↓ap1_n, g_X0_countGroups_K57]
    by_cases c : I 0 ≤ x
    · have c1 := (le_n hI hx).mp c
      rw [if_pos c]
      exact ⟨R, rfl, hO, by rw [show N = k by omega]; exact hc⟩
    · have c1 : ¬ N ≤ k := fun y => c ((le_n hI hx).mpr y)
      have nx := up_i hx (by omega)
      have es : ∀ j, cbN (fun z => B0 z && decide (giN A0 z = j)) (k + 1) = cbN (fun z => B0 z && decide (giN A0 z = j)) k + (if (B0 k && decide (giN A0 k = j)) = true then 1 else 0) := fun j => rfl
      rw [if_neg c, hasBit_v (by omega) (by omega), at_n hx, hso k (by omega)]
      by_cases b : B0 k = true
      · have G50 := gi_50 hR (by omega : k < N) b
        obtain ⟨⟨p0, p5⟩, _⟩ := hR k (by omega) b
        have ring : g_X0_isOnRing x I J R rj rq = (1, I, J, R, rj, rq) := by
          rw [g_X0_isOnRing_e]
          simp only [↓ap1_n]
          rw [at_n hx, hO 5 (by decide), h5 k (by omega), if_neg (fun y => by
            have := Int32.le_iff_toInt_le.mp y
            have k5' : (5 : Int32).toInt = 5 := by decide
            omega)]
        obtain ⟨xg, gr, gn⟩ : ∃ xg : Int32, g_X0_groupOf x I J R rj rq = (xg, I, J, R, rj, rq) ∧ xg.toNatClampNeg = giN A0 k := by
          rw [g_X0_groupOf_e]
          simp only [↓ap1_n]
          rw [at_n hx, hO 5 (by decide), hO 1 (by decide), h5 k (by omega), h1 k (by omega)]
          exact ⟨_, rfl, rfl⟩
        rw [if_pos b, if_neg (show ¬ (1 : Int32) = 0 by decide), ring, bnI_mk, if_neg (show ¬ (1 : Int32) = 0 by decide), gr, bnI_mk, gn]
        refine ih (k + 1) _ _ nx (by omega) (by omega) (fun t ht => (va_up_ne _ _ ht).trans (hO t ht)) (fun j hj => ?_)
        rw [va_up_self, es j, b]
        by_cases e : j = giN A0 k
        · have le := cbN_le (f := fun z => B0 z && decide (giN A0 z = j)) k
          rw [← e, upd_s, decide_eq_true rfl, Bool.true_and, if_pos rfl]
          exact upN (hc j hj) (by omega)
        · rw [upd_n _ _ e, decide_eq_false (fun y => e y.symm), Bool.and_false, if_neg Bool.false_ne_true, Nat.add_zero]
          exact hc j hj
      · rw [if_neg b, if_pos (show (0 : Int32) = 0 from rfl)]
        refine ih (k + 1) _ R nx (by omega) (by omega) hO (fun j hj => ?_)
        rw [es j, show B0 k = false by simpa using b, Bool.false_and, if_neg Bool.false_ne_true, Nat.add_zero]
        exact hc j hj
theorem cg_v (hR : RNG A0 B0 N) (hN : N ≤ 40) (hI : (I 0).toInt = (N : Int)) (hso : ∀ q, q < N → hb so q = B0 q) (h5 : ∀ q, q < 40 → ri 5 q = A0 (740 + 12 * q + 3)) (h1 : ∀ q, q < 40 → ri 1 q = A0 (740 + 12 * q)) : ∃ R : Nat → Nat → Int32, g_X0_countGroups so I J ri rj rq = (I, J, R, rj, rq) ∧ (∀ t, t ≠ 14 → t ≠ 15 → R t = ri t) ∧ (∀ j, j < 50 → R 15 j = -2) ∧ ∀ q, q < N → B0 q = true → R 14 (giN A0 q) = Int32.ofNat (cbN (gpB A0 B0 q) N) := by
  have k0 : (0 : Int32).toInt = 0 := by decide
  rw [g_X0_countGroups_e]
  simp only [↓ap1_n]
  rw [va_up_ne ri (fil 0 50 (ri 14)) (show (15 : Nat) ≠ 14 by decide)]
  obtain ⟨R, e1, e2, e3⟩ := cg_19 (I := I) (J := J) (ri := va_up (va_up ri 14 (fil 0 50 (ri 14))) 15 (fil (-2) 50 (ri 15))) (rj := rj) (rq := rq) (so := so) hR hN hI hso (fun q hq => by rw [va_up_ne _ _ (show (5 : Nat) ≠ 15 by decide), va_up_ne _ _ (show (5 : Nat) ≠ 14 by decide)]; exact h5 q hq) (fun q hq => by rw [va_up_ne _ _ (show (1 : Nat) ≠ 15 by decide), va_up_ne _ _ (show (1 : Nat) ≠ 14 by decide)]; exact h1 q hq) ((40 - (0 : Int32).toInt).toNat + 1) 0 0 _ k0 (by rw [k0]; omega) (Nat.zero_le _) (fun _ _ => rfl) (fun j hj => by
    rw [va_up_ne _ _ (show (14 : Nat) ≠ 15 by decide), va_up_self]
    show ((if j < 50 then (0 : Int32) else ri 14 j)).toInt = _
    rw [if_pos hj]
    exact k0)
  refine ⟨R, e1, fun t h14 h15 => by rw [e2 t h14, va_up_ne _ _ h15, va_up_ne _ _ h14], fun j hj => ?_, fun q hq b => ?_⟩
  · rw [e2 15 (by decide), va_up_self]
    exact if_pos hj
  · have := e3 (giN A0 q) (gi_50 hR hq b)
    refine ofN_u (this.trans ?_) (Nat.le_trans (cbN_le N) (by omega))
    rfl
theorem bdq_8 {mo xN left : Int32} (hL : L ≤ 5) (hI : (I 10).toInt = (L : Int)) (hfr : ∀ (R : Nat → Nat → Int32) (x : Int32) (l : Nat), (∀ t, t ≠ 13 → R t = ri t) → x.toInt = (l : Int) → l < L → g_X0_freeBeds x I J R rj rq = (frE A0 N l, I, J, R, rj, rq)) : ∀ (n l : Nat) (x : Int32) (R : Nat → Nat → Int32), x.toInt = (l : Int) → 5 - l < n → l ≤ L → (∀ t, t ≠ 13 → R t = ri t) → (∀ j, j < l → R 13 j = frE A0 N j) → ∃ R' : Nat → Nat → Int32, g_X0_board_331_L8 so xN left mo I J rj rq n x R = g_X0_board_331_L43 so xN mo I J rj rq ((40 - ((0 : Int32)).toInt).toNat + 1) left (0 : Int32) R' ∧ (∀ t, t ≠ 13 → R' t = ri t) ∧ ∀ j, j < L → R' 13 j = frE A0 N j := by
  intro n
  induction n with
  | zero => intro l _ _ _ h; exact absurd h (Nat.not_lt_zero _)
  | succ n ih =>
    intro l x R hx hn hl hO hf
    rw [g_X0_board_331_L8_e]
    simp only [↓ap1_n]
    by_cases c : I 10 ≤ x
    · have c1 := (le_n hI hx).mp c
      rw [if_pos c]
      exact ⟨R, rfl, hO, by rw [show L = l by omega]; exact hf⟩
    · have c1 : ¬ L ≤ l := fun y => c ((le_n hI hx).mpr y)
      rw [if_neg c, hfr R x l hO hx (by omega), bnI_mk, at_n hx]
      refine ih (l + 1) _ _ (up_i hx (by omega)) (by omega) (by omega) (fun t ht => (va_up_ne _ _ ht).trans (hO t ht)) (fun j hj => ?_)
      rw [va_up_self]
      by_cases e : j = l
      · rw [e, upd_s]
      · rw [upd_n _ _ e]
        exact hf j (by omega)
/-! the reference -/
/-- one PERSON more in the reference's queue -/
theorem lm_65 {p : Nat} {mo flag xc xp : Int32} {lt : Nat → Nat → Bool} {I3 : Nat → Int32} {m : Nat → Nat → Int64} {s : Nat → Nat → Int32} {k : Int32 → Int32 → (Nat → Nat → Int32) → (Nat → Nat → Int64) → vM} (hp : xp.toInt = (p : Int)) (hA : ∀ (f : Nat → Int32) (y : Int32) (q : Nat), y.toInt = (q : Int) → q < 40 → g_X12_goesAhead xp y mo flag I3 V (va_up s 411 f) m sq = ((if lt p q = true then 1 else 0), I3, V, va_up s 411 f, m, sq)) : ∀ (Q : List Nat) (n : Nat) (x : Int32) (f : Nat → Int32), x.toInt = (Q.length : Int) → Q.length < n → Q.length ≤ 40 → RWq f Q → (∀ q, q ∈ Q → q < 40) → ∃ f' : Nat → Int32, g_X12_boatsGo_L65 mo V sq I3 flag xc xp k m n x (va_up s 411 f) = k (xc + Int32.ofInt 1) (xp + Int32.ofInt 1) (va_up s 411 f') m ∧ RWq f' (rins lt p Q) := by
  have k0 : (0 : Int32).toInt = 0 := by decide
  -- with what is left above
  have go : ∀ (Q : List Nat) (n : Nat) (x : Int32) (f : Nat → Int32), x.toInt = (Q.length : Int) → Q.length < n → Q.length ≤ 40 → RWq f Q → (∀ q, q ∈ Q → q < 40) → ∃ f' : Nat → Int32, g_X12_boatsGo_L65 mo V sq I3 flag xc xp k m n x (va_up s 411 f) = k (xc + Int32.ofInt 1) (xp + Int32.ofInt 1) (va_up s 411 f') m ∧ RWq f' (rins lt p Q) ∧ ∀ i, Q.length < i → f' i = f i := by
    intro Q
    induction Q with
    | nil =>
      intro n x f hx hn _ _ _
      have hl : ([] : List Nat).length = 0 := rfl
      obtain ⟨n, rfl⟩ : ∃ k, n = k + 1 := ⟨n - 1, by omega⟩
      rw [g_X12_boatsGo_L65_e, if_pos (show x ≤ 0 from Int32.le_iff_toInt_le.mpr (by rw [k0]; omega)), g_X12_boatsGo_K112_e]
      simp only [↓ap1_n, va_up_self, up_up]
      rw [at_n hx]
      exact ⟨_, rfl, ⟨by rw [show ([] : List Nat).length = 0 from rfl, upd_s]; exact hp, trivial⟩, fun i hi => upd_n _ _ (by omega)⟩
    | cons q Q ih =>
      intro n x f hx hn h40 hf hq
      have hl : (q :: Q).length = Q.length + 1 := rfl
      obtain ⟨n, rfl⟩ : ∃ k, n = k + 1 := ⟨n - 1, by omega⟩
      have n0 : ¬ x ≤ 0 := fun z => by
        have := Int32.le_iff_toInt_le.mp z
        rw [k0] at this
        omega
      have x1 : (x - 1).toNatClampNeg = Q.length := at_n ((i_sub hx (show (1 : Int32).toInt = 1 by decide) (by omega) (by omega)).trans (by omega))
      rw [g_X12_boatsGo_L65_e, if_neg n0]
      simp only [↓ap1_n, va_up_self, up_up]
      rw [x1, at_n hx, bn_n (hA f _ q hf.1 (hq q (List.mem_cons_self ..)))]
      have er : rins lt p (q :: Q) = (if lt p q = true then q :: rins lt p Q else p :: q :: Q) := rfl
      rw [er]
      by_cases c : lt p q = true
      · rw [if_pos c, if_neg (show ¬ (1 : Int32) = 0 by decide), if_pos c]
        have hx2 : (x + Int32.ofInt (-1)).toInt = (Q.length : Int) := (dn_i (by omega) (by omega)).trans (by omega)
        obtain ⟨f', g1, g2, g3⟩ := ih n (x + Int32.ofInt (-1)) (upd f (q :: Q).length (f Q.length)) hx2 (by omega) (by omega) (RWq_u Q hf.2 (fun i hi => upd_n _ _ (by omega))) (fun r hr => hq r (List.mem_cons_of_mem _ hr))
        refine ⟨f', g1, ⟨?_, g2⟩, fun i hi => ?_⟩
        · rw [rins_l, g3 _ (by omega), ← hl, upd_s]
          exact hf.1
        · rw [g3 i (by omega)]
          exact upd_n _ _ (by omega)
      · rw [if_neg c, if_pos (show (0 : Int32) = 0 from rfl), if_neg c, g_X12_boatsGo_K112_e]
        simp only [↓ap1_n, va_up_self, up_up]
        rw [at_n hx]
        exact ⟨_, rfl, ⟨by rw [upd_s]; exact hp, RWq_u (q :: Q) hf (fun i hi => upd_n _ _ (by omega))⟩, fun i hi => upd_n _ _ (by omega)⟩
  intro Q n x f h1 h2 h3 h4 h5
  obtain ⟨f', g1, g2, _⟩ := go Q n x f h1 h2 h3 h4 h5
  exact ⟨f', g1, g2⟩
theorem srtF_m {lt : Nat → Nat → Bool} : ∀ (k z : Nat), z ∈ srtF lt B0 k → z < k ∧ B0 z = true
  | 0, z, h => by cases h
  | k + 1, z, h => by
    have h' : z ∈ (if B0 k = true then rins lt k (srtF lt B0 k) else srtF lt B0 k) := h
    by_cases b : B0 k = true
    · rw [if_pos b] at h'
      rcases rins_m _ z h' with e | e
      · rw [e]; exact ⟨Nat.lt_succ_self _, b⟩
      · obtain ⟨a, c⟩ := srtF_m k z e
        exact ⟨by omega, c⟩
    · rw [if_neg b] at h'
      obtain ⟨a, c⟩ := srtF_m k z h'
      exact ⟨by omega, c⟩
theorem srtF_l {lt : Nat → Nat → Bool} : ∀ k : Nat, (srtF lt B0 k).length ≤ k
  | 0 => Nat.le_refl _
  | k + 1 => by
    have i := srtF_l (lt := lt) k
    show (if B0 k = true then rins lt k (srtF lt B0 k) else srtF lt B0 k).length ≤ k + 1
    split
    · rw [rins_l]; omega
    · omega
/-- the reference's queue -/
theorem bl_12 {mo flag : Int32} {I3 : Nat → Int32} {lt : Nat → Nat → Bool} {mayB : Nat → Bool} (hN : N ≤ 40) (h5 : (si 384 5).toInt = (N : Int)) (hgap : ∀ q, q < 40 → (si 384 (740 + 12 * q + 3)).toInt < 5 ∨ 100 ≤ (si 384 (740 + 12 * q + 3)).toInt) (hB : ∀ q, q < N → (B0 q = true ↔ ((si 384 (740 + 12 * q + 3)).toInt < 5 ∧ mayB q = true))) (hw : ∀ (y : Int32) (q : Nat), y.toInt = (q : Int) → q < N → (si 384 (740 + 12 * q + 3)).toInt < 5 → ∀ (s : Nat → Nat → Int32) (m : Nat → Nat → Int64), s 384 = si 384 → ∃ (h' : Nat → Int32) (g' : Nat → Int64), g_X12_isFor 3 y mo I3 V s m sq = ((if mayB q = true then 1 else 0), I3, V, va_up s 405 h', va_up m 404 g', sq)) (hA : ∀ (s : Nat → Nat → Int32) (m : Nat → Nat → Int64) (x y : Int32) (p q : Nat), s 384 = si 384 → x.toInt = (p : Int) → y.toInt = (q : Int) → p < 40 → q < 40 → g_X12_goesAhead x y mo flag I3 V s m sq = ((if lt p q = true then 1 else 0), I3, V, s, m, sq)) : ∀ (n k : Nat) (x1 x2 : Int32) (s : Nat → Nat → Int32) (m : Nat → Nat → Int64), x2.toInt = (k : Int) → 40 - k < n → k ≤ N → x1.toInt = ((srtF lt B0 k).length : Int) → RWq (s 411) (srtF lt B0 k) → (∀ q, q < k → (s 412 q = 0 ↔ B0 q = true)) → s 384 = si 384 → ∃ (xK : Int32) (s' : Nat → Nat → Int32) (m' : Nat → Nat → Int64), g_X12_boatsGo_L12 mo V si sq I3 flag n x1 x2 s m = g_X12_boatsGo_L142 mo V sq I3 xK m' ((40 - ((0 : Int32)).toInt).toNat + 1) (si 384 11) (0 : Int32) s' ∧ xK.toInt = ((srtF lt B0 N).length : Int) ∧ RWq (s' 411) (srtF lt B0 N) ∧ (∀ q, q < N → (s' 412 q = 0 ↔ B0 q = true)) ∧ s' 384 = si 384 := by
  have k0 : (0 : Int32).toInt = 0 := by decide
  have k100 : (100 : Int32).toInt = 100 := by decide
  have z11 : (11 : Int32).toNatClampNeg = 11 := by decide
  intro n
  induction n with
  | zero => intro k _ _ _ _ _ h; exact absurd h (Nat.not_lt_zero _)
  | succ n ih =>
    intro k x1 x2 s m hx2 hn hk hx1 hQ hM h384
    rw [g_X12_boatsGo_L12_e]
    simp only [↓ap1_n]
    by_cases c : si 384 5 ≤ x2
    · have c1 := (le_n h5 hx2).mp c
      have ek : N = k := by omega
      rw [if_pos c, z11, h384]
      exact ⟨x1, s, m, rfl, by rw [ek]; exact hx1, by rw [ek]; exact hQ, by rw [ek]; exact hM, h384⟩
    · have c1 : ¬ N ≤ k := fun y => c ((le_n h5 hx2).mpr y)
      have nx := up_i hx2 (by omega)
      have es : srtF lt B0 (k + 1) = (if B0 k = true then rins lt k (srtF lt B0 k) else srtF lt B0 k) := rfl
      have hBk := hB k (by omega)
      have s3 : va_up s 412 (upd (s 412) k 1) 384 = si 384 := (va_up_ne _ _ (by decide)).trans h384
      -- who isn't in
      have no : ∀ (s2 : Nat → Nat → Int32) (m2 : Nat → Nat → Int64), ¬ B0 k = true → s2 384 = si 384 → s2 411 = s 411 → (∀ q, s2 412 q = upd (s 412) k 1 q) → ∃ (xK : Int32) (s' : Nat → Nat → Int32) (m' : Nat → Nat → Int64), g_X12_boatsGo_L12 mo V si sq I3 flag n x1 (x2 + Int32.ofInt 1) s2 m2 = g_X12_boatsGo_L142 mo V sq I3 xK m' ((40 - ((0 : Int32)).toInt).toNat + 1) (si 384 11) (0 : Int32) s' ∧ xK.toInt = ((srtF lt B0 N).length : Int) ∧ RWq (s' 411) (srtF lt B0 N) ∧ (∀ q, q < N → (s' 412 q = 0 ↔ B0 q = true)) ∧ s' 384 = si 384 := fun s2 m2 nb e1 e2 e3 => by
        rw [if_neg nb] at es
        refine ih (k + 1) x1 _ s2 m2 nx (by omega) (by omega) (by rw [es]; exact hx1) (by rw [es, e2]; exact hQ) (fun q hq => ?_) e1
        rw [e3 q]
        by_cases e : q = k
        · rw [e, upd_s]
          exact ⟨fun y => absurd y (by decide), fun y => absurd y nb⟩
        · rw [upd_n _ _ e]
          exact hM q (by omega)
      rw [if_neg c, at_n hx2, g_X12_isOnRing_e, bn_n (pa3 (si := va_up s 412 (upd (s 412) k 1)) hx2 (by omega)), s3]
      by_cases o : (100 : Int32) ≤ si 384 (740 + 12 * k + 3)
      · have o1 := Int32.le_iff_toInt_le.mp o
        rw [if_pos o, bnI_mk, if_pos (show (0 : Int32) = 0 from rfl)]
        exact no _ _ (fun y => by have := (hBk.mp y).1; omega) s3 (va_up_ne _ _ (by decide)) (fun q => by rw [va_up_self])
      · have o1 : ¬ (100 : Int32).toInt ≤ (si 384 (740 + 12 * k + 3)).toInt := fun y => o (Int32.le_iff_toInt_le.mpr y)
        have ring : (si 384 (740 + 12 * k + 3)).toInt < 5 := by
          rcases hgap k (by omega) with y | y
          · exact y
          · omega
        obtain ⟨h', g', e1⟩ := hw x2 k hx2 (by omega) ring _ m s3
        rw [if_neg o, bnI_mk, if_neg (show ¬ (1 : Int32) = 0 by decide), e1, bnI_mk]
        have t384 : va_up (va_up s 412 (upd (s 412) k 1)) 405 h' 384 = si 384 := (va_up_ne _ _ (by decide)).trans s3
        have t411 : va_up (va_up s 412 (upd (s 412) k 1)) 405 h' 411 = s 411 := (va_up_ne _ _ (by decide)).trans (va_up_ne _ _ (by decide))
        have t412 : va_up (va_up s 412 (upd (s 412) k 1)) 405 h' 412 = upd (s 412) k 1 := (va_up_ne _ _ (by decide)).trans (va_up_self _ _ _)
        by_cases b : mayB k = true
        · have hb : B0 k = true := hBk.mpr ⟨ring, b⟩
          rw [if_pos hb] at es
          rw [if_pos b, if_neg (show ¬ (1 : Int32) = 0 by decide), t412, upd_upd]
          -- the state with the row of the queue told apart
          generalize eS : va_up (va_up (va_up s 412 (upd (s 412) k 1)) 405 h') 412 (upd (s 412) k 0) = S
          have S384 : S 384 = si 384 := by rw [← eS]; exact (va_up_ne _ _ (by decide)).trans t384
          have S411 : S 411 = s 411 := by rw [← eS]; exact (va_up_ne _ _ (by decide)).trans t411
          have S412 : S 412 = upd (s 412) k 0 := by rw [← eS]; exact va_up_self _ _ _
          have lk := srtF_l (B0 := B0) (lt := lt) k
          obtain ⟨f', g1, g2⟩ := lm_65 (V := V) (sq := sq) (p := k) (mo := mo) (flag := flag) (xc := x1) (xp := x2) (lt := lt) (I3 := I3) (m := va_up m 404 g') (s := S) (k := g_X12_boatsGo_L12 mo V si sq I3 flag n) hx2 (fun f y q hy hq => hA _ _ x2 y k q ((va_up_ne _ _ (by decide)).trans S384) hx2 hy (by omega) hq) (srtF lt B0 k) ((x1.toInt).toNat + 1) x1 (S 411) hx1 (by rw [hx1]; omega) (by omega) (by rw [S411]; exact hQ) (fun q hq => by have := (srtF_m k q hq).1; omega)
          rw [up_id] at g1
          rw [g1]
          refine ih (k + 1) _ _ _ _ nx (by omega) (by omega) ?_ (by rw [es, va_up_self]; exact g2) (fun q hq => ?_) ((va_up_ne _ _ (by decide)).trans S384)
          · rw [es, rins_l]
            exact up_i hx1 (by omega)
          · rw [va_up_ne _ _ (show (412 : Nat) ≠ 411 by decide), S412]
            by_cases e : q = k
            · rw [e, upd_s]
              exact ⟨fun _ => hb, fun _ => rfl⟩
            · rw [upd_n _ _ e]
              exact hM q (by omega)
        · rw [if_neg b, if_pos (show (0 : Int32) = 0 from rfl)]
          exact no _ _ (fun y => b (hBk.mp y).2) t384 t411 (fun q => by rw [t412])
/-- without BOATS nobody goes -/
theorem bz_142 {mo xK left : Int32} {K : Nat} {row : Nat → Int32} {I3 : Nat → Int32} {m : Nat → Nat → Int64} (hN : N ≤ 40) (hxK : xK.toInt = (K : Int)) (hK : K ≤ 40) (hL : L ≤ 5) (h4 : (si 384 4).toInt = (L : Int)) (h5 : (si 384 5).toInt = (N : Int)) (hr : ∀ k, k < K → (row k).toInt = (r k : Int) ∧ r k < N) (hl : left.toInt ≤ 0) : ∀ (nm k : Nat) (y2 : Int32) (s : Nat → Nat → Int32), y2.toInt = (k : Int) → 40 - k < nm → k ≤ K → s 411 = row → (∀ j, (∀ q k, q < 40 → k ∈ [3, 7] → j ≠ 740 + 12 * q + k) → s 384 j = si 384 j) → (∀ q, q < 40 → s 384 (740 + 12 * q + 3) = si 384 (740 + 12 * q + 3)) → ∃ s' : Nat → Nat → Int32, g_X12_boatsGo_L142 mo V sq I3 xK m nm left y2 s = (I3, V, s', m, sq) ∧ (∀ j, (∀ q k, q < 40 → k ∈ [3, 7] → j ≠ 740 + 12 * q + k) → s' 384 j = si 384 j) ∧ ∀ q, q < 40 → s' 384 (740 + 12 * q + 3) = si 384 (740 + 12 * q + 3) := by
  intro nm
  induction nm with
  | zero => intro k _ _ _ h; exact absurd h (Nat.not_lt_zero _)
  | succ nm ih =>
    intro k y2 s hy hn hk h411 hO hP
    rw [g_X12_boatsGo_L142_e]
    by_cases c : xK ≤ y2
    · rw [if_pos c]
      exact ⟨s, rfl, hO, hP⟩
    · have c1 : ¬ K ≤ k := fun y => c ((le_n hxK hy).mpr y)
      have ny := up_i hy (by omega)
      obtain ⟨r1, r2⟩ := hr k (by omega)
      rw [if_neg c]
      simp only [↓ap1_n, g_X12_boatsGo_K182]
      rw [at_n hy, h411, at_n r1]
      by_cases z : s 412 (r k) = 0
      · have e4 : s 384 4 = si 384 4 := hO 4 (fun q k _ hk2 => by simp only [List.mem_cons, List.not_mem_nil, or_false] at hk2; omega)
        have e5 : s 384 5 = si 384 5 := hO 5 (fun q k _ hk2 => by simp only [List.mem_cons, List.not_mem_nil, or_false] at hk2; omega)
        have hM : fmM s (r k) (r k) = true := decide_eq_true ⟨z, rfl, rfl⟩
        obtain ⟨s1, v1, v2⟩ := family_v (U := I3) (V := V) (si := s) (sj := m) (sq := sq) (a1 := mo) (a2 := left) (by rw [e5]; exact h5) hN (by rw [e4]; exact h4) hL r1 r2 hM
        have pos : 1 ≤ cbN (fmM s (r k)) N := cbN_1 r2 hM
        have cl := cbN_le (f := fmM s (r k)) N
        have lt : left < Int32.ofNat (cbN (fmM s (r k)) N) := Int32.lt_iff_toInt_lt.mpr (by rw [ofN_t (by omega)]; omega)
        rw [if_pos (Or.inl lt)] at v1 v2
        have l0 : left - 0 = left := by grind
        rw [if_pos z, v1, bnI_mk, l0]
        refine ih (k + 1) _ s1 ny (by omega) (by omega) ((v2.1 411 (by decide) (by decide)).trans h411) (fun j hj => (v2.2.2.2 j hj).trans (hO j hj)) (fun q hq => ?_)
        have := v2.2.2.1 q hq
        exact this.trans (hP q hq)
      · rw [if_neg z]
        exact ih (k + 1) _ s ny (by omega) (by omega) h411 hO hP
end PK10
/-! ===== pure: BOATS of both sides, put together (behind pk10) ===== -/
section PK11
variable {I : Nat → Int32} {J : Nat → Int64} {ri : Nat → Nat → Int32} {rj : Nat → Nat → Int64} {rq : Nat → Nat → Option Nat}
variable {U : Nat → Int32} {V : Nat → Int64} {si : Nat → Nat → Int32} {sj : Nat → Nat → Int64} {sq : Nat → Nat → Option Nat}
variable {tI : Nat → Nat → Int32} {tR : Nat → Nat → Nat → Int32}
theorem on_4 {N : Nat} (hI : (I 0).toInt = (N : Int)) (hN : N ≤ 40) : ∀ (n k : Nat) (x : Int32) (s : Int64), x.toInt = (k : Int) → 40 - k < n → k ≤ N → (∀ q, q < k → hb s q = decide ((ri 5 q).toInt < 5)) → (∀ q, k ≤ q → q < 64 → hb s q = false) → ∃ s' : Int64, g_X0_onRings_L4 I J ri rj rq n s x = (s', I, J, ri, rj, rq) ∧ ∀ q, q < N → hb s' q = decide ((ri 5 q).toInt < 5) := by
  have k5 : (5 : Int32).toInt = 5 := by decide
  intro n
  induction n with
  | zero => intro k _ _ _ h; exact absurd h (Nat.not_lt_zero _)
  | succ n ih =>
    intro k x s hx hn hk hs hz
    rw [g_X0_onRings_L4_e]
    simp only [↓ap1_n, g_X0_onRings_K26]
    by_cases c : I 0 ≤ x
    · have c1 := (le_n hI hx).mp c
      rw [if_pos c]
      exact ⟨s, rfl, by rw [show N = k by omega]; exact hs⟩
    · have c1 : ¬ N ≤ k := fun y => c ((le_n hI hx).mpr y)
      have nx := up_i hx (by omega)
      rw [if_neg c, g_X0_isOnRing_e]
      simp only [↓ap1_n]
      rw [at_n hx]
      by_cases d : (5 : Int32) ≤ ri 5 k
      · have d1 := Int32.le_iff_toInt_le.mp d
        rw [if_pos d, bnI_mk, if_pos (show (0 : Int32) = 0 from rfl)]
        refine ih (k + 1) _ s nx (by omega) (by omega) (fun q hq => ?_) (fun q h1 h2 => hz q (by omega) h2)
        by_cases e : q = k
        · rw [e, hz k (Nat.le_refl _) (by omega), decide_eq_false (show ¬ (ri 5 k).toInt < 5 by omega)]
        · exact hs q (by omega)
      · have d1 : ¬ (5 : Int32).toInt ≤ (ri 5 k).toInt := fun y => d (Int32.le_iff_toInt_le.mpr y)
        have hbo : ∀ j, j < 64 → hb (s ||| ((1 : Int64) <<< (x.toInt64 &&& 63))) j = (hb s j || decide (k = j)) := fun j hj => by rw [hb_or (by omega) (by omega) j hj, at_n hx]
        rw [if_neg d, bnI_mk, if_neg (show ¬ (1 : Int32) = 0 by decide)]
        refine ih (k + 1) _ _ nx (by omega) (by omega) (fun q hq => ?_) (fun q h1 h2 => ?_)
        · rw [hbo q (by omega)]
          by_cases e : q = k
          · rw [e, decide_eq_true rfl, Bool.or_true, decide_eq_true (show (ri 5 k).toInt < 5 by omega)]
          · rw [hs q (by omega), decide_eq_false (show ¬ k = q from fun y => e y.symm), Bool.or_false]
        · rw [hbo q h2, hz q (by omega) h2, decide_eq_false (show ¬ k = q by omega)]
          rfl
theorem onRings_v {N : Nat} (hI : (I 0).toInt = (N : Int)) (hN : N ≤ 40) : ∃ s' : Int64, g_X0_onRings I J ri rj rq = (s', I, J, ri, rj, rq) ∧ ∀ q, q < N → hb s' q = decide ((ri 5 q).toInt < 5) := by
  have k0 : (0 : Int32).toInt = 0 := by decide
  rw [g_X0_onRings_e]
  exact on_4 hI hN _ 0 0 0 k0 (by rw [k0]; omega) (Nat.zero_le _) (fun q hq => absurd hq (Nat.not_lt_zero _)) (fun q _ _ => hb_0 q)
theorem goesAhead_v {mo x y : Int32} {p q : Nat} {o : Option (List Int32)} {K : Int32} {s : Nat → Nat → Int32} {m : Nat → Nat → Int64} (h407 : U 407 = 0) (hA : ∀ E, o = some E → ∀ (U1 : Nat → Int32) (s : Nat → Nat → Int32) (m : Nat → Nat → Int64) (mo2 x y : Int32) (p q : Nat), U1 406 = K → s 384 = si 384 → x.toInt = (p : Int) → y.toInt = (q : Int) → p < 40 → q < 40 → g_X12_isAhead x y mo2 U1 V s m sq = ((if ahd (si 384) E p q = true then 1 else 0), U1, V, s, m, sq)) (hs : s 384 = si 384) (hx : x.toInt = (p : Int)) (hy : y.toInt = (q : Int)) (hp : p < 40) (hq : q < 40) : g_X12_goesAhead x y mo (if o = none then 0 else 1) (va_up U 406 K) V s m sq = ((if ltk (si 384) o p q = true then 1 else 0), va_up U 406 K, V, s, m, sq) := by
  have e407 : va_up U 406 K 407 = 0 := (va_up_ne _ _ (by decide)).trans h407
  rw [g_X12_goesAhead_e]
  simp only [↓ap1_n]
  rw [e407, if_neg (show ¬ (0 : Int32) = 1 by decide)]
  cases ho : o with
  | none =>
    rw [if_pos (show (if (none : Option (List Int32)) = none then (0 : Int32) else 1) = 0 by rw [if_pos rfl]), g_X12_goesAhead_K58_e]
    show _ = ((if false = true then (1 : Int32) else 0), _, _, _, _, _)
    rw [if_neg Bool.false_ne_true]
  | some E =>
    rw [if_neg (show ¬ (if (some E : Option (List Int32)) = none then (0 : Int32) else 1) = 0 by rw [if_neg (by simp)]; decide), hA E ho (va_up U 406 K) s m mo x y p q (va_up_self _ _ _) hs hx hy hp hq, bnI_mk]
    show _ = ((if ahd (si 384) E p q = true then (1 : Int32) else 0), _, _, _, _, _)
    by_cases l : ahd (si 384) E p q = true
    · rw [if_pos l, if_neg (show ¬ (1 : Int32) = 0 by decide)]
    · rw [if_neg l, if_pos (show (0 : Int32) = 0 from rfl), g_X12_goesAhead_K58_e]
set_option maxHeartbeats 1000000 in
theorem boats_F {mo : Int32} {k : (Nat → Nat → Int32) → vM} (hT : TXS I rq tI tR (si 384)) (hF : FCS I ri (si 384)) (hK : FLK I ri (si 384)) (hL : LTS I ri (si 384)) (h322 : I 322 = si 384 11) (hm : vb9 mo) (h407 : U 407 = 0) : ∃ (R' s' : Nat → Nat → Int32) (U' : Nat → Int32) (m' : Nat → Nat → Int64), (if I 322 ≤ 0 then k ri else bnV (g_X3_line_331 tI tR 4 mo I J ri rj rq) fun (_ : Nat → Int32) (_ : Nat → Int64) (r2 : Nat → Nat → Int32) (_ : Nat → Nat → Int64) (_ : Nat → Nat → Option Nat) => bnI (g_X0_onRings I J r2 rj rq) fun (x : Int64) (_ : Nat → Int32) (_ : Nat → Int64) (_ : Nat → Nat → Int32) (_ : Nat → Nat → Int64) (_ : Nat → Nat → Option Nat) => bnI (g_X3_whoIsSo tI tR 2 mo x I J r2 rj rq) fun (x2 : Int64) (_ : Nat → Int32) (_ : Nat → Int64) (r3 : Nat → Nat → Int32) (_ : Nat → Nat → Int64) (_ : Nat → Nat → Option Nat) => bnV (g_X0_board_331 x2 (I 0) (I 322) mo I J r3 rj rq) fun (_ : Nat → Int32) (_ : Nat → Int64) (r4 : Nat → Nat → Int32) (_ : Nat → Nat → Int64) (_ : Nat → Nat → Option Nat) => k r4) = k R' ∧ g_X12_boatsGo mo U V si sj sq = (U', V, s', m', sq) ∧ FLK I R' (s' 384) ∧ (∀ t, t ∉ [5, 8, 12, 13, 14, 15, 102, 103, 331] → R' t = ri t) ∧ (∀ j, (∀ q k, q < 40 → k ∈ [3, 7] → j ≠ 740 + 12 * q + k) → s' 384 j = si 384 j) ∧ ∀ q, q < 40 → (s' 384 (740 + 12 * q + 3) = 200 ↔ si 384 (740 + 12 * q + 3) = 200) := by
  have k0 : (0 : Int32).toInt = 0 := by decide
  have hK' := hK
  have hL' := hL
  obtain ⟨i0, ⟨n0, n40⟩, kp⟩ := hK'
  obtain ⟨e10, ⟨l0, l5⟩, lb⟩ := hL'
  obtain ⟨N, h5⟩ : ∃ N : Nat, (si 384 5).toInt = (N : Int) := ⟨(si 384 5).toInt.toNat, by omega⟩
  obtain ⟨L, h4⟩ : ∃ L : Nat, (si 384 4).toInt = (L : Int) := ⟨(si 384 4).toInt.toNat, by omega⟩
  have hN : N ≤ 40 := by omega
  have hL5 : L ≤ 5 := by omega
  have hI0 : (I 0).toInt = (N : Int) := by rw [i0]; exact h5
  have hI10 : (I 10).toInt = (L : Int) := by rw [e10]; exact h4
  -- the queue
  obtain ⟨o, f, K, l1, l2, l3, l4⟩ := line_v (I := I) (J := J) (ri := ri) (rj := rj) (rq := rq) (U := U) (V := V) (si := si) (sj := sj) (sq := sq) (tI := tI) (tR := tR) (a := 4) (mo := mo) (N := N) (Or.inl (by decide)) hT hF hK hI0
  rw [show srC 4 = 5 by decide] at l3
  have fr : ∀ t, t ≠ 331 → va_up ri 331 f t = ri t := fun t ht => va_up_ne _ _ ht
  have hK1 : FLK I (va_up ri 331 f) (si 384) := FLK_cg hK rfl (fun t ht p _ => by rw [fr t (fun q : t = 331 => by rw [q] at ht; exact absurd ht (by decide))]) rfl (fun _ _ _ _ => rfl)
  have hF1 : FCS I (va_up ri 331 f) (si 384) := FCS_cg hF rfl (fun t ht j _ => by rw [fr t (fun q : t = 331 => by rw [q] at ht; exact absurd ht (by decide))]) rfl (fun _ _ _ => rfl) (Int.le_refl _)
  -- who is on RINGS, who may
  obtain ⟨so0, o1, o2⟩ := onRings_v (I := I) (J := J) (ri := va_up ri 331 f) (rj := rj) (rq := rq) hI0 hN
  have who := fun (U2 : Nat → Int32) (s : Nat → Nat → Int32) (m : Nat → Nat → Int64) (hs : s 384 = si 384) => who_v (I := I) (J := J) (ri := va_up ri 331 f) (rj := rj) (rq := rq) (U := U2) (V := V) (si := s) (sj := m) (sq := sq) (tI := tI) (tR := tR) (a := 2) (mo := mo) (asked := so0) (by decide) (by decide) hm (by rw [hs]; exact hT) (by rw [hs]; exact hF1) (by rw [hs]; exact hK1)
  obtain ⟨so, B, R3, w1, w2, w3, _, _⟩ := who U si sj rfl
  have zI := clampE (I 0)
  have cI : (I 0).toNatClampNeg = N := at_n hI0
  rw [cI] at w3
  have p5 : ∀ q, q < 40 → va_up ri 331 f 5 q = si 384 (740 + 12 * q + 3) := fun q hq => by rw [fr 5 (by decide)]; exact (kp q hq).1.2.2.2.1
  have bo : ∀ q, q < N → hb so0 q = decide ((si 384 (740 + 12 * q + 3)).toInt < 5) := fun q hq => by rw [o2 q hq, p5 q (by omega)]
  have hB : ∀ q, q < N → (hb so q = true ↔ ((si 384 (740 + 12 * q + 3)).toInt < 5 ∧ B q = true)) := fun q hq => by
    rw [w3 q hq, bo q hq, Bool.and_eq_true_iff, decide_eq_true_iff]
  have hR : RNG (si 384) (fun q => hb so q) N := fun q hq b => by
    obtain ⟨_, d1, d2, d3, d4, d5⟩ := kp q (by omega)
    have := ((hB q hq).mp b).1
    exact ⟨⟨d4.1, this⟩, d1⟩
  have hw : ∀ (y : Int32) (q : Nat), y.toInt = (q : Int) → q < N → (si 384 (740 + 12 * q + 3)).toInt < 5 → ∀ (s : Nat → Nat → Int32) (m : Nat → Nat → Int64), s 384 = si 384 → ∃ (h' : Nat → Int32) (g' : Nat → Int64), g_X12_isFor 3 y mo (va_up U 406 K) V s m sq = ((if B q = true then 1 else 0), va_up U 406 K, V, va_up s 405 h', va_up m 404 g', sq) := fun y q hy hq hr s m hs => by
    obtain ⟨so2, B2, R2, x1, x2, x3, x4, x5⟩ := who (va_up U 406 K) s m hs
    have es : so2 = so := (Prod.mk.inj (x1.symm.trans w1)).1
    rw [es, cI] at x3
    have eb : B2 q = B q := by
      have a := w3 q hq
      rw [x3 q hq, bo q hq, decide_eq_true hr, Bool.true_and, Bool.true_and] at a
      exact a
    obtain ⟨h', g', e⟩ := x5 y q hy (by omega) (s 405) (m 404)
    rw [up_id, up_id, show srC 2 = 3 by decide, eb] at e
    exact ⟨h', g', e⟩
  have hgap : ∀ q, q < 40 → (si 384 (740 + 12 * q + 3)).toInt < 5 ∨ 100 ≤ (si 384 (740 + 12 * q + 3)).toInt := fun q hq => (kp q hq).2.2.2.2.2
  obtain ⟨xK, s1, m1, b1, b2, b3, b4, b5⟩ := bl_12 (V := V) (si := si) (sq := sq) (B0 := fun q => hb so q) (N := N) (mo := mo) (flag := (if o = none then 0 else 1)) (I3 := va_up U 406 K) (lt := ltk (si 384) o) (mayB := B) hN h5 hgap hB hw (fun s m x y p q hs hx hy hp hq => goesAhead_v h407 l4 hs hx hy hp hq) ((40 - (0 : Int32).toInt).toNat + 1) 0 0 0 si sj k0 (by rw [k0]; omega) (Nat.zero_le _) k0 trivial (fun q hq => absurd hq (Nat.not_lt_zero _)) rfl
  have ref : g_X12_boatsGo mo U V si sj sq = g_X12_boatsGo_L142 mo V sq (va_up U 406 K) xK m1 ((40 - ((0 : Int32)).toInt).toNat + 1) (si 384 11) (0 : Int32) s1 := by
    rw [g_X12_boatsGo_e, l3, bnI_mk]
    exact b1
  have Kl := srtF_l (B0 := fun q => hb so q) (lt := ltk (si 384) o) N
  have hr : ∀ k, k < (srtF (ltk (si 384) o) (fun q => hb so q) N).length → (s1 411 k).toInt = (((s1 411 k).toInt.toNat : Nat) : Int) ∧ (s1 411 k).toInt.toNat < N := fun k hk => by
    obtain ⟨x1, x2⟩ := RWq_at _ k b3 hk
    exact ⟨by omega, (srtF_m N _ x2).1⟩
  have hO : ∀ j, (∀ q k, q < 40 → k ∈ [3, 7] → j ≠ 740 + 12 * q + k) → s1 384 j = si 384 j := fun j _ => by rw [b5]
  by_cases q : I 322 ≤ 0
  · -- no BOATS
    have q1 := Int32.le_iff_toInt_le.mp q
    rw [k0, h322] at q1
    obtain ⟨s', z1, z2, z3⟩ := bz_142 (V := V) (si := si) (sq := sq) (N := N) (L := L) (r := fun k => (s1 411 k).toInt.toNat) (mo := mo) (xK := xK) (left := si 384 11) (row := s1 411) (I3 := va_up U 406 K) (m := m1) hN b2 (by omega) hL5 h4 h5 hr q1 ((40 - (0 : Int32).toInt).toNat + 1) 0 0 s1 k0 (by rw [k0]; omega) (Nat.zero_le _) rfl hO (fun q _ => by rw [b5])
    refine ⟨ri, s', va_up U 406 K, m1, by rw [if_pos q], ref.trans z1, FLK_cg hK rfl (fun _ _ _ _ => rfl) (z2 5 (fun q k _ hk2 => by simp only [List.mem_cons, List.not_mem_nil, or_false] at hk2; omega)) (fun p k hp hk => ?_), fun _ _ => rfl, z2, fun q hq => by rw [z3 q hq]⟩
    by_cases e : k = 3
    · rw [e]; exact z3 p hp
    · refine z2 _ (fun q2 k2 _ hk2 => ?_)
      simp only [List.mem_cons, List.not_mem_nil, or_false] at hk hk2
      omega
  · rw [if_neg q, l1, bnV_mk, o1, bnI_mk, w1, bnI_mk]
    have r3 : ∀ t, t ≠ 102 → t ≠ 103 → t ≠ 331 → R3 t = ri t := fun t h1 h2 h3 => (w2 t h1 h2).trans (fr t h3)
    have hK3 : FLK I R3 (si 384) := FLK_cg hK1 rfl (fun t ht p _ => by rw [w2 t (fun q : t = 102 => by rw [q] at ht; exact absurd ht (by decide)) (fun q : t = 103 => by rw [q] at ht; exact absurd ht (by decide))]) rfl (fun _ _ _ _ => rfl)
    have r35 : ∀ q, q < 40 → R3 5 q = si 384 (740 + 12 * q + 3) := fun q hq => (hK3.2.2 q hq).1.2.2.2.1
    have r31 : ∀ q, q < 40 → R3 1 q = si 384 (740 + 12 * q) := fun q hq => (hK3.2.2 q hq).1.1
    obtain ⟨R4, c1, c2, c3, c4⟩ := cg_v (I := I) (J := J) (ri := R3) (rj := rj) (rq := rq) (A0 := si 384) (B0 := fun q => hb so q) (N := N) (so := so) hR hN hI0 (fun _ _ => rfl) r35 r31
    obtain ⟨R5, d1, d2, d3⟩ := bdq_8 (I := I) (J := J) (ri := R4) (rj := rj) (rq := rq) (A0 := si 384) (N := N) (L := L) (so := so) (mo := mo) (xN := I 0) (left := I 322) hL5 hI10 (fun R x l hR2 hx hl => by
      have rr : ∀ t, t ≠ 13 → t ≠ 14 → t ≠ 15 → t ≠ 102 → t ≠ 103 → t ≠ 331 → R t = ri t := fun t h1 h2 h3 h4 h5 h6 => (hR2 t h1).trans ((c2 t h2 h3).trans (r3 t h4 h5 h6))
      have hKR : FLK I R (si 384) := FLK_cg hK rfl (fun t ht p _ => by
        have m : t ≠ 13 ∧ t ≠ 14 ∧ t ≠ 15 ∧ t ≠ 102 ∧ t ≠ 103 ∧ t ≠ 331 := (by decide : ∀ t, t ∈ [1, 2, 3, 4, 5, 9] → t ≠ 13 ∧ t ≠ 14 ∧ t ≠ 15 ∧ t ≠ 102 ∧ t ≠ 103 ∧ t ≠ 331) t ht
        rw [rr t m.1 m.2.1 m.2.2.1 m.2.2.2.1 m.2.2.2.2.1 m.2.2.2.2.2]) rfl (fun _ _ _ _ => rfl)
      have hLR : LTS I R (si 384) := LTS_cg hL rfl (fun l _ => by rw [rr 11 (by decide) (by decide) (by decide) (by decide) (by decide) (by decide)]) rfl (fun _ _ => rfl)
      obtain ⟨z, z1, z2⟩ := free_v (I := I) (J := J) (ri := R) (rj := rj) (rq := rq) (U := U) (V := V) (si := si) (sj := sj) (sq := sq) hKR hLR hx (by omega)
      have z3 := freeIn_v (U := U) (V := V) (si := si) (sj := sj) (sq := sq) h5 hN hx (show l < 5 by omega)
      rw [z1, (Prod.mk.inj (z2.symm.trans z3)).1]) ((5 - (0 : Int32).toInt).toNat + 1) 0 0 R4 k0 (by rw [k0]; omega) (Nat.zero_le _) (fun _ _ => rfl) (fun j hj => absurd hj (Nat.not_lt_zero _))
    have L2 := RWq_dl _ l2
    have sl := srt_l (lt := ltk (si 384) o) N
    rw [sl] at L2
    have L3 := RWq_dl _ b3
    have r5 : ∀ t, t ≠ 13 → t ≠ 14 → t ≠ 15 → R5 t = R3 t := fun t h1 h2 h3 => (d2 t h1).trans (c2 t h2 h3)
    have R331 : R3 331 = f := (w2 331 (by decide) (by decide)).trans (va_up_self _ _ _)
    obtain ⟨R6, s6, v1, v2, v3⟩ := bs_sim (I := I) (J := J) (rj := rj) (rq := rq) (V := V) (sq := sq) (A0 := si 384) (B0 := fun q => hb so q) (g := fun j => (f j).toInt.toNat) (r := fun k => (s1 411 k).toInt.toNat) (N := N) (L := L) (so := so) (mo := mo) (xN := I 0) (xK := xK) (K := (srtF (ltk (si 384) o) (fun q => hb so q) N).length) (row := s1 411) (rw0 := f) (kn := R3 1) (m := m1) (I3 := va_up U 406 K) hR hN hI0 b2 hI10 hL5 h4 h5 (fun j hj => by
      obtain ⟨x1, x2⟩ := RWq_at _ j l2 (by rw [sl]; exact hj)
      exact ⟨by omega, srt_m _ _ x2⟩) (fun k hk => (hr k hk).1) (by rw [← L2, ← L3, srtF_v ltk_s]) (by rw [← L2]; exact srt_nd N) (fun _ _ => rfl) r31 ((40 - (0 : Int32).toInt).toNat + 1) 0 0 (I 322) R5 s1 0 ((40 - (0 : Int32).toInt).toNat + 1) 0 k0 (by rw [k0]; omega) (Nat.zero_le _) k0 (by rw [k0]; omega) (Nat.zero_le _) (by omega) rfl ((r5 331 (by decide) (by decide) (by decide)).trans R331) (r5 1 (by decide) (by decide) (by decide)) rfl ⟨fun q hq b _ => by rw [r5 5 (by decide) (by decide) (by decide)]; exact r35 q (by omega), fun q hq b hm => (by cases hm), fun q hq _ => ⟨by rw [r5 5 (by decide) (by decide) (by decide)]; exact r35 q hq, by rw [b5]⟩, fun q hq b => by rw [b5, d2 15 (by decide), c3 _ (gi_50 hR hq b), if_pos rfl], fun q hq => ⟨fun y => ⟨(b4 q hq).mp y, by rw [d2 15 (by decide)]; exact c3 _ (gi_50 hR hq ((b4 q hq).mp y))⟩, fun y => (b4 q hq).mpr y.1⟩, fun q hq b => by rw [d2 14 (by decide)]; exact c4 q hq b, fun l hl => by rw [d3 l hl, b5], fun q hq b => Or.inl (by rw [d2 15 (by decide)]; exact c3 _ (gi_50 hR hq b)), hO⟩
    obtain ⟨_, vb, vc, vd, _, _, _, vh, vk⟩ := v3
    have bd : g_X0_board_331 so (I 0) (I 322) mo I J R3 rj rq = (I, J, R6, rj, rq) := by
      rw [g_X0_board_331_e, c1, bnV_mk, d1]
      exact v1
    rw [bd, bnV_mk]
    have fb := g_X0_board_331_f (a0 := so) (a2 := I 0) (a3 := I 322) (a4 := mo) (I := I) (J := J) (ri := R3) (rj := rj) (rq := rq)
    rw [bd] at fb
    have r6 : ∀ t, t ∉ [5, 8, 12, 13, 14, 15, 102, 103, 331] → R6 t = ri t := fun t ht => by
      have g8 : R6 t = R3 t := fb.2.2.1 t (fun y => ht ((by decide : ∀ t, t ∈ w_X0_board_331.2.2.1 → t ∈ [5, 8, 12, 13, 14, 15, 102, 103, 331]) t y))
      simp only [List.mem_cons, List.not_mem_nil, or_false, not_or] at ht
      rw [g8]
      exact r3 t (by omega) (by omega) (by omega)
    -- where all are
    have pl : ∀ q, q < 40 → R6 5 q = s6 384 (740 + 12 * q + 3) ∧ (s6 384 (740 + 12 * q + 3) = si 384 (740 + 12 * q + 3) ∨ ∃ l, l < L ∧ s6 384 (740 + 12 * q + 3) = lotP l ∧ (si 384 (740 + 12 * q + 3)).toInt < 5) := fun q hq => by
      by_cases b : q < N ∧ hb so q = true
      · obtain ⟨z1, z2⟩ := vb q b.1 b.2 (by rw [← L2]; exact srt_all N q b.1)
        have z3 := vd q b.1 b.2
        rw [if_neg z1] at z3
        refine ⟨z2.trans z3.symm, ?_⟩
        rw [z3]
        rcases vh q b.1 b.2 with e | e | ⟨l, e1, e2⟩
        · exact absurd e z1
        · rw [e]
          exact Or.inl (if_pos rfl)
        · rw [e2]
          refine Or.inr ⟨l, e1, ?_, (hR q b.1 b.2).1.2⟩
          exact if_neg (ofN_ne (by omega)).1
      · obtain ⟨z1, z2⟩ := vc q hq b
        exact ⟨z1.trans z2.symm, Or.inl z2⟩
    refine ⟨R6, s6, va_up U 406 K, m1, rfl, by rw [ref, ← h322]; exact v2, ⟨i0.trans (vk 5 (fun q k _ hk2 => by simp only [List.mem_cons, List.not_mem_nil, or_false] at hk2; omega)).symm, ?_, fun p hp => ?_⟩, r6, vk, fun p hp => ?_⟩
    · rw [vk 5 (fun q k _ hk2 => by simp only [List.mem_cons, List.not_mem_nil, or_false] at hk2; omega)]
      exact ⟨n0, n40⟩
    · have cell : ∀ k, k ∈ [0, 1, 2, 4, 8] → s6 384 (740 + 12 * p + k) = si 384 (740 + 12 * p + k) := fun k hk => vk _ (fun q2 k2 _ hk2 => by
        simp only [List.mem_cons, List.not_mem_nil, or_false] at hk hk2
        omega)
      obtain ⟨⟨a1, a2, a3, a4, a5, a6⟩, d1, d2, d3, d4, d5⟩ := kp p hp
      obtain ⟨e1, e2⟩ := pl p hp
      have c0 : s6 384 (740 + 12 * p) = si 384 (740 + 12 * p) := cell 0 (by decide)
      rw [c0, cell 1 (by decide), cell 2 (by decide), cell 4 (by decide), cell 8 (by decide), r6 1 (by decide), r6 2 (by decide), r6 3 (by decide), r6 4 (by decide), r6 9 (by decide)]
      refine ⟨⟨a1, a2, a3, e1, a5, a6⟩, d1, d2, d3, ?_⟩
      rcases e2 with e | ⟨l, l1, e, _⟩
      · rw [e]; exact ⟨d4, d5⟩
      · rw [e, lotP_t (by omega)]
        omega
    · obtain ⟨_, e2⟩ := pl p hp
      have k200 : (200 : Int32).toInt = 200 := by decide
      rcases e2 with e | ⟨l, l1, e, er⟩
      · rw [e]
      · have lt := lotP_t (l := l) (by omega)
        exact ⟨fun y => by rw [e] at y; rw [y] at lt; omega, fun y => by rw [y] at er; omega⟩
end PK11
/-! ===== pure: the tides of the reference once more: UNDER and the ROCKS of the month (behind pu19, pw) ===== -/
section PU20
variable {I : Nat → Int32} {J : Nat → Int64} {ri : Nat → Nat → Int32} {rj : Nat → Nat → Int64} {rq : Nat → Nat → Option Nat}
/-- what the tides write of one CELL: DRY v, UNDER u -/
def sea2 (c : Nat) (v u : Int32) (A B : Nat → Int32) : Prop := B (100 + 16 * c + 12) = v ∧ B (100 + 16 * c + 11) = u ∧ ∀ i, (∀ k, k ∈ [7, 9, 10, 11, 12, 13] → i ≠ 100 + 16 * c + k) → B i = A i
theorem sea2_0 {c : Nat} {v w u : Int32} {A : Nat → Int32} : sea2 c v u A (upd (upd (upd A (100 + 16 * c + 12) v) (100 + 16 * c + 13) w) (100 + 16 * c + 11) u) := ⟨by rw [upd_n _ _ (by omega), upd_n _ _ (by omega), upd_s], upd_s _ _ _, fun i h => by rw [upd_n _ _ (h 11 (by decide)), upd_n _ _ (h 13 (by decide)), upd_n _ _ (h 12 (by decide))]⟩
theorem sea2_k {c k : Nat} {v u w : Int32} {A B : Nat → Int32} (h : sea2 c v u A B) (hk : k ∈ [7, 9, 10]) : sea2 c v u A (upd B (100 + 16 * c + k) w) := by
  have h12 : k ≠ 12 ∧ k ≠ 11 := ⟨fun e => by subst e; exact absurd hk (by decide), fun e => by subst e; exact absurd hk (by decide)⟩
  have hm : k ∈ [7, 9, 10, 11, 12, 13] := by
    simp only [List.mem_cons, List.not_mem_nil, or_false] at hk ⊢
    omega
  exact ⟨(upd_n _ _ (by omega)).trans h.1, (upd_n _ _ (by omega)).trans h.2.1, fun i hi => (upd_n _ _ (hi k hm)).trans (h.2.2 i hi)⟩
/-- the bits of the ROCKS among the first n CELLS -/
def RBK (P : Nat → Prop) (n : Nat) (a b : Int32) : Prop := (∀ j, j < 20 → (b3 a j = true ↔ j < n ∧ P j)) ∧ ∀ j, j < 20 → (b3 b j = true ↔ 20 + j < n ∧ P (20 + j))
theorem rbk_0 {P : Nat → Prop} : RBK P 0 0 0 := ⟨fun j _ => by rw [b_0]; exact ⟨fun h => absurd h (by decide), fun h => absurd h.1 (Nat.not_lt_zero _)⟩, fun j _ => by rw [b_0]; exact ⟨fun h => absurd h (by decide), fun h => absurd h.1 (Nat.not_lt_zero _)⟩⟩
theorem rbk_n {P : Nat → Prop} {n : Nat} {a b : Int32} (h : RBK P n a b) (q : ¬ P n) : RBK P (n + 1) a b := ⟨fun j hj => (h.1 j hj).trans ⟨fun y => ⟨by omega, y.2⟩, fun y => ⟨by
  have : j ≠ n := fun e => q (e ▸ y.2)
  omega, y.2⟩⟩, fun j hj => (h.2 j hj).trans ⟨fun y => ⟨by omega, y.2⟩, fun y => ⟨by
  have : 20 + j ≠ n := fun e => q (e ▸ y.2)
  omega, y.2⟩⟩⟩
theorem or_b {a c : Int32} (h0 : 0 ≤ c.toInt) (h1 : c.toInt ≤ 31) (j : Nat) (hj : j < 20) : b3 (a ||| ((1 : Int32) <<< (c &&& 31))) j = true ↔ b3 a j = true ∨ j = c.toNatClampNeg := by
  rw [b_or, b3_one h0 h1 j (by omega), Bool.or_eq_true, decide_eq_true_iff]
theorem rbk_l {P : Nat → Prop} {x : Int32} {a b : Int32} (h : RBK P x.toNatClampNeg a b) (h0 : 0 ≤ x.toInt) (h1 : x.toInt < 20) (p : P x.toNatClampNeg) : RBK P (x.toNatClampNeg + 1) (a ||| ((1 : Int32) <<< (x &&& 31))) b := by
  have z := clampE x
  refine ⟨fun j hj => ?_, fun j hj => (h.2 j hj).trans ⟨fun y => ⟨by omega, y.2⟩, fun y => ⟨by omega, y.2⟩⟩⟩
  rw [or_b h0 (by omega) j hj, h.1 j hj]
  constructor
  · rintro (y | y)
    · exact ⟨by omega, y.2⟩
    · rw [y]; exact ⟨by omega, p⟩
  · intro y
    by_cases q : j = x.toNatClampNeg
    · exact Or.inr q
    · exact Or.inl ⟨by omega, y.2⟩
theorem rbk_h {P : Nat → Prop} {x : Int32} {a b : Int32} (h : RBK P x.toNatClampNeg a b) (h0 : 20 ≤ x.toInt) (h1 : x.toInt < 40) (p : P x.toNatClampNeg) : RBK P (x.toNatClampNeg + 1) a (b ||| ((1 : Int32) <<< ((x - 20) &&& 31))) := by
  have z := clampE x
  have e : (x - 20).toInt = x.toInt - 20 := i_sub rfl (show (20 : Int32).toInt = 20 by decide) (by omega) (by omega)
  have z2 := clampE (x - 20)
  refine ⟨fun j hj => (h.1 j hj).trans ⟨fun y => ⟨by omega, y.2⟩, fun y => ⟨by omega, y.2⟩⟩, fun j hj => ?_⟩
  rw [or_b (by omega) (by omega) j hj, h.2 j hj]
  constructor
  · rintro (y | y)
    · exact ⟨by omega, y.2⟩
    · rw [show 20 + j = x.toNatClampNeg by omega]; exact ⟨by omega, p⟩
  · intro y
    by_cases q : 20 + j = x.toNatClampNeg
    · exact Or.inr (by omega)
    · exact Or.inl ⟨by omega, y.2⟩
/-- what the tides leave -/
def SSR (I : Nat → Int32) (J : Nat → Int64) (ri : Nat → Nat → Int32) (rj : Nat → Nat → Int64) (rq : Nat → Nat → Option Nat) (m lv : Int32) (X : vM) : Prop := ∃ B : Nat → Int32, X = (I, J, va_up ri 384 B, rj, rq) ∧ ztq (ri 384) B ∧ (∀ c, c < (ri 384 2).toNatClampNeg → B (100 + 16 * c + 12) = (if topA (ri 384) c ≤ lv + ri 384 (20 + 5 * (tmod m).toNatClampNeg + 1) then 0 else 1) ∧ B (100 + 16 * c + 11) = (if topA (ri 384) c ≤ lv + ri 384 (20 + 5 * (tmod m).toNatClampNeg + 1) then ri 384 (100 + 16 * c + 11) + 1 else 0)) ∧ (∀ c, (ri 384 2).toNatClampNeg ≤ c → c < 40 → B (100 + 16 * c + 12) = ri 384 (100 + 16 * c + 12) ∧ B (100 + 16 * c + 11) = ri 384 (100 + 16 * c + 11)) ∧ (∀ c, c < 40 → (rkA B m.toNatClampNeg c = true ↔ c < (ri 384 2).toNatClampNeg ∧ ¬ topA (ri 384) c ≤ lv + ri 384 (20 + 5 * (tmod m).toNatClampNeg + 0))) ∧ ∀ i, 2520 ≤ i → i < 3720 → i ≠ 2520 + 2 * m.toNatClampNeg → i ≠ 2520 + 2 * m.toNatClampNeg + 1 → B i = ri 384 i
set_option maxHeartbeats 1000000 in
theorem seaStands_r {m lv : Int32} (hm0 : 0 ≤ m.toInt) (hm1 : m.toInt < 600) (h0 : 0 ≤ (ri 384 2).toInt) (h40 : (ri 384 2).toInt ≤ 40) : SSR I J ri rj rq m lv (g_X12_seaStands m lv I J ri rj rq) := by
  have zN := clampE (ri 384 2)
  have zm' := clampE m
  have tm := tmod_r hm0 (by omega)
  have ztq' := clampE (tmod m)
  have k20 : (20 : Int32).toInt = 20 := by decide
  generalize hHi : lv + ri 384 (20 + 5 * (tmod m).toNatClampNeg + 1) = Hi
  generalize hLo : lv + ri 384 (20 + 5 * (tmod m).toNatClampNeg + 0) = Lo
  have topZ : ∀ A : Nat → Int32, ztq (ri 384) A → ∀ c, c < 40 → topA A c = topA (ri 384) c := fun A hA c hc => by
    have p : ∀ k, k ∈ [1, 4, 5, 6] → A (100 + 16 * c + k) = ri 384 (100 + 16 * c + k) := fun k hk => hA _ (Or.inl (by simp only [List.mem_cons, List.not_mem_nil, or_false] at hk; omega)) (fun c2 k2 h2 h3 => by simp only [List.mem_cons, List.not_mem_nil, or_false] at hk h3; omega)
    unfold topA
    rw [p 1 (by decide), p 4 (by decide), p 5 (by decide), p 6 (by decide)]
  -- what stands behind x CELLS
  have go : ∀ (n : Nat) (a b x : Int32) (A : Nat → Int32), 0 ≤ x.toInt → x.toInt ≤ (ri 384 2).toInt → (40 - x.toInt).toNat < n → ztq (ri 384) A → (∀ c, c < x.toNatClampNeg → A (100 + 16 * c + 12) = (if topA (ri 384) c ≤ Hi then 0 else 1) ∧ A (100 + 16 * c + 11) = (if topA (ri 384) c ≤ Hi then ri 384 (100 + 16 * c + 11) + 1 else 0)) → (∀ c, x.toNatClampNeg ≤ c → c < 40 → A (100 + 16 * c + 12) = ri 384 (100 + 16 * c + 12) ∧ A (100 + 16 * c + 11) = ri 384 (100 + 16 * c + 11)) → (∀ i, 2520 ≤ i → i < 3720 → A i = ri 384 i) → RBK (fun c => ¬ topA (ri 384) c ≤ Lo) x.toNatClampNeg a b → SSR I J ri rj rq m lv (g_X12_seaStands_L8 m lv I J ri rj rq n a b x (va_up ri 384 A)) := by
    intro n
    induction n with
    | zero => intro a b x A _ _ h; exact absurd h (Nat.not_lt_zero _)
    | succ n ih =>
      intro a b x A h1 h2 h3 hA hv ho hr hb
      have zx := clampE x
      by_cases c : ri 384 2 ≤ x
      · have c1 := Int32.le_iff_toInt_le.mp c
        rw [g_X12_seaStands_L8_e]
        simp only [↓ap1_n, bnI_u]
        rw [if_pos c]
        have w1 : ((2520 : Int32) + (2 : Int32) * m).toNatClampNeg = 2520 + 2 * m.toNatClampNeg ∧ ((2520 : Int32) + (2 : Int32) * m + 1).toNatClampNeg = 2520 + 2 * m.toNatClampNeg + 1 := by
          have e0 : ((2520 : Int32) + (2 : Int32) * m).toInt = 2520 + 2 * m.toInt := i_add (show (2520 : Int32).toInt = 2520 by decide) (i_mul (y := m) (show (2 : Int32).toInt = 2 by decide) rfl (by omega) (by omega)) (by omega) (by omega)
          have e1 := t1_one (x := (2520 : Int32) + (2 : Int32) * m) (by omega) (by omega)
          have y0 := clampE ((2520 : Int32) + (2 : Int32) * m)
          have y1 := clampE ((2520 : Int32) + (2 : Int32) * m + 1)
          exact ⟨by omega, by omega⟩
        have ex : x.toNatClampNeg = (ri 384 2).toNatClampNeg := by omega
        rw [w1.1, w1.2, va_up_self, up_up, va_up_self, up_up]
        rw [ex] at hv ho hb
        unfold SSR
        rw [hHi, hLo]
        refine ⟨_, rfl, zt_tr hA (zt_tr (zt_r (by omega) (by omega)) (zt_r (by omega) (by omega))), fun c hc => ?_, fun c hc h4 => ?_, fun c hc => ?_, fun i i1 i2 i3 i4 => ?_⟩
        · rw [upd_n _ _ (by omega), upd_n _ _ (by omega), upd_n _ _ (by omega), upd_n _ _ (by omega)]
          exact hv c (by omega)
        · rw [upd_n _ _ (by omega), upd_n _ _ (by omega), upd_n _ _ (by omega), upd_n _ _ (by omega)]
          exact ho c hc h4
        · unfold rkA
          by_cases q : c < 20
          · rw [if_pos q, upd_n _ _ (by omega), upd_s]
            exact hb.1 c q
          · rw [if_neg q, upd_s, hb.2 (c - 20) (by omega), show 20 + (c - 20) = c by omega]
        · rw [upd_n _ _ i4, upd_n _ _ i3]
          exact hr i i1 i2
      · have c1 := Int32.lt_iff_toInt_lt.mp (Int32.not_le.mp c)
        have e := t1_inc (x := x) (by omega) (by omega)
        have z3 := clampE (x + Int32.ofInt 1)
        have hx1 : (x + Int32.ofInt 1).toNatClampNeg = x.toNatClampNeg + 1 := by omega
        have i7 := ixk (c := x) (k := 7) 7 (by decide) (by decide) h1 (by omega)
        have i8 := ixk (c := x) (k := 8) 8 (by decide) (by decide) h1 (by omega)
        have i9 := ixk (c := x) (k := 9) 9 (by decide) (by decide) h1 (by omega)
        have i10 := ixk (c := x) (k := 10) 10 (by decide) (by decide) h1 (by omega)
        have i11 := ixk (c := x) (k := 11) 11 (by decide) (by decide) h1 (by omega)
        have i12 := ixk (c := x) (k := 12) 12 (by decide) (by decide) h1 (by omega)
        have i13 := ixk (c := x) (k := 13) 13 (by decide) (by decide) h1 (by omega)
        have a11 : A (100 + 16 * x.toNatClampNeg + 11) = ri 384 (100 + 16 * x.toNatClampNeg + 11) := (ho _ (Nat.le_refl _) (by omega)).2
        have tA : ∀ k, k ≤ 4 → A (20 + 5 * (tmod m).toNatClampNeg + k) = ri 384 (20 + 5 * (tmod m).toNatClampNeg + k) := fun k hk => hA _ (Or.inl (by omega)) (fun c2 k2 h2 h3 => by omega)
        have tp : A (100 + 16 * x.toNatClampNeg + 1) + A (100 + 16 * x.toNatClampNeg + 4) + A (100 + 16 * x.toNatClampNeg + 5) / 4 + A (100 + 16 * x.toNatClampNeg + 6) = topA (ri 384) x.toNatClampNeg := topZ A hA _ (by omega)
        -- the next turn
        have fin : ∀ (v u : Int32) (B : Nat → Int32) (a b : Int32), v = (if topA (ri 384) x.toNatClampNeg ≤ Hi then 0 else 1) → u = (if topA (ri 384) x.toNatClampNeg ≤ Hi then ri 384 (100 + 16 * x.toNatClampNeg + 11) + 1 else 0) → sea2 x.toNatClampNeg v u A B → RBK (fun c => ¬ topA (ri 384) c ≤ Lo) (x.toNatClampNeg + 1) a b → SSR I J ri rj rq m lv (g_X12_seaStands_L8 m lv I J ri rj rq n a b (x + Int32.ofInt 1) (va_up ri 384 B)) := fun v u B a b hvv huu hs hab => by
          have zs : ztq (ri 384) B := zt_tr hA (fun i _ y => hs.2.2 i (fun k hk => y _ k (by omega) hk))
          refine ih _ _ _ _ (by omega) (by omega) (by omega) zs (fun c hc => ?_) (fun c hc h4 => ?_) (fun i i1 i2 => ?_) (by rw [hx1]; exact hab)
          · by_cases q : c = x.toNatClampNeg
            · subst q; rw [hs.1, hs.2.1]; exact ⟨hvv, huu⟩
            · rw [hs.2.2 _ (fun k hk => by simp only [List.mem_cons, List.not_mem_nil, or_false] at hk; omega), hs.2.2 _ (fun k hk => by simp only [List.mem_cons, List.not_mem_nil, or_false] at hk; omega)]
              exact hv c (by omega)
          · rw [hs.2.2 _ (fun k hk => by simp only [List.mem_cons, List.not_mem_nil, or_false] at hk; omega), hs.2.2 _ (fun k hk => by simp only [List.mem_cons, List.not_mem_nil, or_false] at hk; omega)]
            exact ho c (by omega) h4
          · rw [hs.2.2 i (fun k hk => by simp only [List.mem_cons, List.not_mem_nil, or_false] at hk; omega)]
            exact hr i i1 i2
        clear ih
        rw [g_X12_seaStands_L8_e]
        simp only [↓ap1_n, bnI_u, topOf_m h1 (show x.toInt ≤ 39 by omega), tableAt_m1 hm0 (show m.toInt ≤ 2147483647 by omega), va_up_self, tp, tA 1 (by decide), hHi]
        rw [if_neg c]
        by_cases d : topA (ri 384) x.toNatClampNeg ≤ Hi
        · have fin0 : ∀ (B : Nat → Int32) (a b : Int32), sea2 x.toNatClampNeg 0 (ri 384 (100 + 16 * x.toNatClampNeg + 11) + 1) A B → RBK (fun c => ¬ topA (ri 384) c ≤ Lo) (x.toNatClampNeg + 1) a b → SSR I J ri rj rq m lv (g_X12_seaStands_L8 m lv I J ri rj rq n a b (x + Int32.ofInt 1) (va_up ri 384 B)) := fun B a b => fin 0 _ B a b (if_pos d).symm (if_pos d).symm
          rw [if_pos d, g_X12_seaStands_K51_e]
          simp only [↓ap1_n, bnI_u, topOf_m h1 (show x.toInt ≤ 39 by omega), tableAt_m0 hm0 (show m.toInt ≤ 2147483647 by omega), va_up_self, tp, tA 0 (by decide), hLo]
          by_cases r : topA (ri 384) x.toNatClampNeg ≤ Lo
          · have hab := rbk_n hb (fun y => y r)
            rw [if_pos r]
            have kA : ∀ (B : Nat → Int32), sea2 x.toNatClampNeg 0 (ri 384 (100 + 16 * x.toNatClampNeg + 11) + 1) A B → SSR I J ri rj rq m lv (g_X12_seaStands_K360 a b x (g_X12_seaStands_L8 m lv I J ri rj rq n) (va_up ri 384 B)) := fun B h => by
              rw [g_X12_seaStands_K360_e]
              simp only [↓ap1_n]
              exact fin0 B a b h hab
            have kC : ∀ (B : Nat → Int32), sea2 x.toNatClampNeg 0 (ri 384 (100 + 16 * x.toNatClampNeg + 11) + 1) A B → SSR I J ri rj rq m lv (g_X12_seaStands_K207 a b x (g_X12_seaStands_L8 m lv I J ri rj rq n) ((100 : Int32) + (16 : Int32) * x) (va_up ri 384 B)) := fun B h => by
              rw [g_X12_seaStands_K207_e]
              simp only [↓ap1_n, g_X12_seaStands_K359, va_up_self, up_up, i8, i10]
              split
              · exact kA _ h
              · split
                · exact kA _ (sea2_k h (by decide))
                · exact kA _ (sea2_k h (by decide))
            simp only [g_X12_seaStands_K75, g_X12_seaStands_K96, g_X12_seaStands_K116, g_X12_seaStands_K147, g_X12_seaStands_K167, g_X12_seaStands_K191, ↓ap1_n, i7, i11, i12, i13, va_up_self, up_up]
            refine kC _ (sea2_k ?_ (by decide))
            rw [upd_n _ _ (show 100 + 16 * x.toNatClampNeg + 11 ≠ 100 + 16 * x.toNatClampNeg + 13 by omega), upd_n _ _ (show 100 + 16 * x.toNatClampNeg + 11 ≠ 100 + 16 * x.toNatClampNeg + 12 by omega), a11]
            exact sea2_0
          · rw [if_neg r]
            have kA : ∀ (a b : Int32) (B : Nat → Int32), RBK (fun c => ¬ topA (ri 384) c ≤ Lo) (x.toNatClampNeg + 1) a b → sea2 x.toNatClampNeg 0 (ri 384 (100 + 16 * x.toNatClampNeg + 11) + 1) A B → SSR I J ri rj rq m lv (g_X12_seaStands_K360_2 x (g_X12_seaStands_L8 m lv I J ri rj rq n) a b (va_up ri 384 B)) := fun a b B hab h => by
              rw [g_X12_seaStands_K360_2_e]
              simp only [↓ap1_n]
              exact fin0 B a b h hab
            have kC : ∀ (a b : Int32) (B : Nat → Int32), RBK (fun c => ¬ topA (ri 384) c ≤ Lo) (x.toNatClampNeg + 1) a b → sea2 x.toNatClampNeg 0 (ri 384 (100 + 16 * x.toNatClampNeg + 11) + 1) A B → SSR I J ri rj rq m lv (g_X12_seaStands_K191_2 x (g_X12_seaStands_L8 m lv I J ri rj rq n) ((100 : Int32) + (16 : Int32) * x) (va_up ri 384 B) a b) := fun a b B hab h => by
              rw [g_X12_seaStands_K191_2_e]
              simp only [↓ap1_n, g_X12_seaStands_K207_2, g_X12_seaStands_K359_2, va_up_self, up_up, i7, i8, i10]
              split
              · exact kA _ _ _ hab (sea2_k h (by decide))
              · split
                · exact kA _ _ _ hab (sea2_k (sea2_k h (by decide)) (by decide))
                · exact kA _ _ _ hab (sea2_k (sea2_k h (by decide)) (by decide))
            simp only [g_X12_seaStands_K75_2, g_X12_seaStands_K96_2, g_X12_seaStands_K116_2, g_X12_seaStands_K147_2, ↓ap1_n, i11, i12, i13, va_up_self, up_up]
            rw [upd_n _ _ (show 100 + 16 * x.toNatClampNeg + 11 ≠ 100 + 16 * x.toNatClampNeg + 13 by omega), upd_n _ _ (show 100 + 16 * x.toNatClampNeg + 11 ≠ 100 + 16 * x.toNatClampNeg + 12 by omega), a11]
            by_cases q : (20 : Int32) ≤ x
            · have q1 := Int32.le_iff_toInt_le.mp q
              rw [if_pos q, g_X12_seaStands_K167_2_e]
              simp only [↓ap1_n]
              rw [if_neg (fun y => by have := Int32.lt_iff_toInt_lt.mp y; omega)]
              exact kC _ _ _ (rbk_h hb (by omega) (by omega) r) sea2_0
            · have q1 : x.toInt < 20 := by
                have : ¬ (20 : Int32).toInt ≤ x.toInt := fun y => q (Int32.le_iff_toInt_le.mpr y)
                omega
              rw [if_neg q, g_X12_seaStands_K167_2_e]
              simp only [↓ap1_n]
              rw [if_pos (Int32.lt_iff_toInt_lt.mpr (by omega))]
              exact kC _ _ _ (rbk_l hb h1 q1 r) sea2_0
        · have fin1 : ∀ (B : Nat → Int32) (a b : Int32), sea2 x.toNatClampNeg 1 0 A B → RBK (fun c => ¬ topA (ri 384) c ≤ Lo) (x.toNatClampNeg + 1) a b → SSR I J ri rj rq m lv (g_X12_seaStands_L8 m lv I J ri rj rq n a b (x + Int32.ofInt 1) (va_up ri 384 B)) := fun B a b => fin 1 0 B a b (if_neg d).symm (if_neg d).symm
          rw [if_neg d, g_X12_seaStands_K51_2_e]
          simp only [↓ap1_n, bnI_u, topOf_m h1 (show x.toInt ≤ 39 by omega), tableAt_m0 hm0 (show m.toInt ≤ 2147483647 by omega), va_up_self, tp, tA 0 (by decide), hLo]
          by_cases r : topA (ri 384) x.toNatClampNeg ≤ Lo
          · have hab := rbk_n hb (fun y => y r)
            rw [if_pos r]
            have kA3 : ∀ (B : Nat → Int32), sea2 x.toNatClampNeg 1 0 A B → SSR I J ri rj rq m lv (g_X12_seaStands_K360_3 a b x (g_X12_seaStands_L8 m lv I J ri rj rq n) (va_up ri 384 B)) := fun B h => by
              rw [g_X12_seaStands_K360_3_e]
              simp only [↓ap1_n]
              exact fin1 B a b h hab
            have kB3 : ∀ (B : Nat → Int32), sea2 x.toNatClampNeg 1 0 A B → SSR I J ri rj rq m lv (g_X12_seaStands_K287 a b x (g_X12_seaStands_L8 m lv I J ri rj rq n) ((100 : Int32) + (16 : Int32) * x) (va_up ri 384 B)) := fun B h => by
              rw [g_X12_seaStands_K287_e]
              simp only [↓ap1_n, va_up_self, up_up, i10]
              split
              · exact kA3 _ h
              · exact kA3 _ (sea2_k h (by decide))
            have kC3 : ∀ (B : Nat → Int32), sea2 x.toNatClampNeg 1 0 A B → SSR I J ri rj rq m lv (g_X12_seaStands_K207_3 m I J rj rq a b x (g_X12_seaStands_L8 m lv I J ri rj rq n) ((100 : Int32) + (16 : Int32) * x) (va_up ri 384 B)) := fun B h => by
              rw [g_X12_seaStands_K207_3_e]
              simp only [↓ap1_n, bnI_u, tableAt_m4, va_up_self, up_up, i8, i9]
              split
              · exact kA3 _ h
              · split
                · exact kB3 _ (sea2_k h (by decide))
                · exact kB3 _ (sea2_k (sea2_k h (by decide)) (by decide))
            simp only [g_X12_seaStands_K75_3, g_X12_seaStands_K96_3, g_X12_seaStands_K116_3, g_X12_seaStands_K147_3, g_X12_seaStands_K167_3, g_X12_seaStands_K191_3, ↓ap1_n, i11, i12, i13, va_up_self, up_up]
            exact kC3 _ sea2_0
          · rw [if_neg r]
            have kA4 : ∀ (B : Nat → Int32) (a b : Int32), RBK (fun c => ¬ topA (ri 384) c ≤ Lo) (x.toNatClampNeg + 1) a b → sea2 x.toNatClampNeg 1 0 A B → SSR I J ri rj rq m lv (g_X12_seaStands_K360_4 x (g_X12_seaStands_L8 m lv I J ri rj rq n) a b (va_up ri 384 B)) := fun B a b hab h => by
              rw [g_X12_seaStands_K360_4_e]
              simp only [↓ap1_n]
              exact fin1 B a b h hab
            have kB4 : ∀ (B : Nat → Int32) (a b : Int32), RBK (fun c => ¬ topA (ri 384) c ≤ Lo) (x.toNatClampNeg + 1) a b → sea2 x.toNatClampNeg 1 0 A B → SSR I J ri rj rq m lv (g_X12_seaStands_K287_2 x (g_X12_seaStands_L8 m lv I J ri rj rq n) ((100 : Int32) + (16 : Int32) * x) a b (va_up ri 384 B)) := fun B a b hab h => by
              rw [g_X12_seaStands_K287_2_e]
              simp only [↓ap1_n, va_up_self, up_up, i10]
              split
              · exact kA4 _ _ _ hab h
              · exact kA4 _ _ _ hab (sea2_k h (by decide))
            have kC4 : ∀ (B : Nat → Int32) (a b : Int32), RBK (fun c => ¬ topA (ri 384) c ≤ Lo) (x.toNatClampNeg + 1) a b → sea2 x.toNatClampNeg 1 0 A B → SSR I J ri rj rq m lv (g_X12_seaStands_K207_4 m I J rj rq x (g_X12_seaStands_L8 m lv I J ri rj rq n) ((100 : Int32) + (16 : Int32) * x) (va_up ri 384 B) a b) := fun B a b hab h => by
              rw [g_X12_seaStands_K207_4_e]
              simp only [↓ap1_n, bnI_u, tableAt_m4, va_up_self, up_up, i8, i9]
              split
              · exact kA4 _ _ _ hab h
              · split
                · exact kB4 _ _ _ hab (sea2_k h (by decide))
                · exact kB4 _ _ _ hab (sea2_k (sea2_k h (by decide)) (by decide))
            simp only [g_X12_seaStands_K75_4, g_X12_seaStands_K96_4, g_X12_seaStands_K116_4, g_X12_seaStands_K147_4, ↓ap1_n, i11, i12, i13, va_up_self, up_up]
            by_cases q : (20 : Int32) ≤ x
            · have q1 := Int32.le_iff_toInt_le.mp q
              rw [if_pos q, g_X12_seaStands_K167_4_e]
              simp only [↓ap1_n, g_X12_seaStands_K191_4]
              rw [if_neg (fun y => by have := Int32.lt_iff_toInt_lt.mp y; omega)]
              exact kC4 _ _ _ (rbk_h hb (by omega) (by omega) r) sea2_0
            · have q1 : x.toInt < 20 := by
                have : ¬ (20 : Int32).toInt ≤ x.toInt := fun y => q (Int32.le_iff_toInt_le.mpr y)
                omega
              rw [if_neg q, g_X12_seaStands_K167_4_e]
              simp only [↓ap1_n, g_X12_seaStands_K191_4]
              rw [if_pos (Int32.lt_iff_toInt_lt.mpr (by omega))]
              exact kC4 _ _ _ (rbk_l hb h1 q1 r) sea2_0
  rw [g_X12_seaStands_e]
  have n0 : (0 : Int32).toNatClampNeg = 0 := by decide
  have h := go ((40 - (0 : Int32).toInt).toNat + 1) 0 0 0 (ri 384) (by decide) h0 (Nat.lt_succ_self _) zt_rf (fun c hc => absurd hc (by rw [n0]; exact Nat.not_lt_zero _)) (fun _ _ _ => ⟨rfl, rfl⟩) (fun _ _ _ => rfl) (by rw [n0]; exact rbk_0)
  rw [up_id] at h
  exact h
end PU20
/-! ===== pure: THE FUND and AREA of a month, both sides (behind pu20, pz, pv) ===== -/
section PU21
variable {I : Nat → Int32} {J : Nat → Int64} {ri : Nat → Nat → Int32} {rj : Nat → Nat → Int64} {rq : Nat → Nat → Option Nat}
/-- what those ABROAD send -/
def snC (pl sd : Nat → Int32) : Nat → Int32
  | 0 => 0
  | n + 1 => snC pl sd n + (if pl n = 200 then sd n else 0)
/-- what the WALLS cost -/
def wlC (w : Nat → Int32) (k : Int32) : Nat → Int32
  | 0 => 0
  | n + 1 => wlC w k n + (if w n ≤ 0 then 0 else k)
theorem snC_cg {pl sd pl' sd' : Nat → Int32} : ∀ n : Nat, (∀ p, p < n → (pl' p = 200 ↔ pl p = 200) ∧ sd' p = sd p) → snC pl' sd' n = snC pl sd n
  | 0, _ => rfl
  | n + 1, h => by
    show snC pl' sd' n + _ = snC pl sd n + _
    rw [snC_cg n (fun p hp => h p (by omega)), (h n (Nat.lt_succ_self n)).2]
    by_cases q : pl n = 200
    · rw [if_pos q, if_pos ((h n (Nat.lt_succ_self n)).1.mpr q)]
    · rw [if_neg q, if_neg (fun y => q ((h n (Nat.lt_succ_self n)).1.mp y))]
theorem wlC_cg {w w' : Nat → Int32} {k : Int32} : ∀ n : Nat, (∀ p, p < n → w' p = w p) → wlC w' k n = wlC w k n
  | 0, _ => rfl
  | n + 1, h => by
    show wlC w' k n + _ = wlC w k n + _
    rw [wlC_cg n (fun p hp => h p (by omega)), h n (Nat.lt_succ_self n)]
theorem i_ss (a b c : Int32) : a - b - c = a - (b + c) := by grind
theorem i_m1 (k c : Int32) : k * (c + Int32.ofInt 1) = k * c + k := by
  rw [show Int32.ofInt 1 = (1 : Int32) from rfl]
  grind
theorem i_fu (a s t w : Int32) : a + (s + t - w) = a + s + t - w := by grind
theorem i_a0 (a : Int32) : a + 0 = a := by grind
theorem i_s0 (a : Int32) : a - 0 = a := by grind
theorem sendings_v (h0 : 0 ≤ (I 0).toInt) (h40 : (I 0).toInt ≤ 40) : g_X0_sendings I J ri rj rq = (snC (ri 5) (ri 4) (I 0).toNatClampNeg, I, J, ri, rj, rq) := by
  have zN := clampE (I 0)
  have go : ∀ (n : Nat) (x : Int32), 0 ≤ x.toInt → x.toInt ≤ (I 0).toInt → (40 - x.toInt).toNat < n → g_X0_sendings_L4 I J ri rj rq n (snC (ri 5) (ri 4) x.toNatClampNeg) x = (snC (ri 5) (ri 4) (I 0).toNatClampNeg, I, J, ri, rj, rq) := by
    intro n
    induction n with
    | zero => intro x _ _ h; exact absurd h (Nat.not_lt_zero _)
    | succ n ih =>
      intro x h1 h2 h3
      have zx := clampE x
      rw [g_X0_sendings_L4_e]
      simp only [↓ap1_n]
      by_cases c : I 0 ≤ x
      · have c1 := Int32.le_iff_toInt_le.mp c
        rw [if_pos c, show x.toNatClampNeg = (I 0).toNatClampNeg by omega]
      · have c1 := Int32.lt_iff_toInt_lt.mp (Int32.not_le.mp c)
        have e := t1_inc (x := x) (by omega) (by omega)
        have z3 := clampE (x + Int32.ofInt 1)
        have hx1 : (x + Int32.ofInt 1).toNatClampNeg = x.toNatClampNeg + 1 := by omega
        have nx := ih (x + Int32.ofInt 1) (by omega) (by omega) (by omega)
        rw [hx1] at nx
        rw [if_neg c]
        by_cases d : ri 5 x.toNatClampNeg = 200
        · rw [if_pos d, g_X0_sendings_K33_e]
          simp only [↓ap1_n]
          rw [show snC (ri 5) (ri 4) x.toNatClampNeg + ri 4 x.toNatClampNeg = snC (ri 5) (ri 4) (x.toNatClampNeg + 1) by
            show _ = snC (ri 5) (ri 4) x.toNatClampNeg + (if ri 5 x.toNatClampNeg = 200 then ri 4 x.toNatClampNeg else 0)
            rw [if_pos d]]
          exact nx
        · rw [if_neg d, g_X0_sendings_K33_e]
          simp only [↓ap1_n]
          rw [show snC (ri 5) (ri 4) x.toNatClampNeg = snC (ri 5) (ri 4) (x.toNatClampNeg + 1) by
            show _ = snC (ri 5) (ri 4) x.toNatClampNeg + (if ri 5 x.toNatClampNeg = 200 then ri 4 x.toNatClampNeg else 0)
            rw [if_neg d, i_a0]]
          exact nx
  rw [g_X0_sendings_e]
  have h := go ((40 - (0 : Int32).toInt).toNat + 1) 0 (by decide) h0 (Nat.lt_succ_self _)
  rw [show (0 : Int32).toNatClampNeg = 0 by decide] at h
  exact h
theorem countWalls_v (h0 : 0 ≤ (I 65).toInt) (h40 : (I 65).toInt ≤ 40) : ∃ w : Int32, g_X2_countWalls I J ri rj rq = (w, I, J, ri, rj, rq) ∧ ∀ k : Int32, k * w = wlC (ri 75) k (I 65).toNatClampNeg := by
  have zN := clampE (I 65)
  have go : ∀ (n : Nat) (u x : Int32), 0 ≤ x.toInt → x.toInt ≤ (I 65).toInt → (40 - x.toInt).toNat < n → (∀ k : Int32, k * u = wlC (ri 75) k x.toNatClampNeg) → ∃ w : Int32, g_X2_countWalls_L4 I J ri rj rq n u x = (w, I, J, ri, rj, rq) ∧ ∀ k : Int32, k * w = wlC (ri 75) k (I 65).toNatClampNeg := by
    intro n
    induction n with
    | zero => intro u x _ _ h; exact absurd h (Nat.not_lt_zero _)
    | succ n ih =>
      intro u x h1 h2 h3 hu
      have zx := clampE x
      rw [g_X2_countWalls_L4_e]
      simp only [↓ap1_n]
      by_cases c : I 65 ≤ x
      · have c1 := Int32.le_iff_toInt_le.mp c
        rw [if_pos c]
        exact ⟨u, rfl, fun k => by rw [hu k, show x.toNatClampNeg = (I 65).toNatClampNeg by omega]⟩
      · have c1 := Int32.lt_iff_toInt_lt.mp (Int32.not_le.mp c)
        have e := t1_inc (x := x) (by omega) (by omega)
        have z3 := clampE (x + Int32.ofInt 1)
        have hx1 : (x + Int32.ofInt 1).toNatClampNeg = x.toNatClampNeg + 1 := by omega
        rw [if_neg c]
        by_cases d : ri 75 x.toNatClampNeg ≤ 0
        · rw [if_pos d, g_X2_countWalls_K24_e]
          simp only [↓ap1_n]
          refine ih _ _ (by omega) (by omega) (by omega) (fun k => ?_)
          rw [hx1, hu k]
          show _ = wlC (ri 75) k x.toNatClampNeg + (if ri 75 x.toNatClampNeg ≤ 0 then 0 else k)
          rw [if_pos d, i_a0]
        · rw [if_neg d, g_X2_countWalls_K24_e]
          simp only [↓ap1_n]
          refine ih _ _ (by omega) (by omega) (by omega) (fun k => ?_)
          rw [hx1, i_m1, hu k]
          show _ = wlC (ri 75) k x.toNatClampNeg + (if ri 75 x.toNatClampNeg ≤ 0 then 0 else k)
          rw [if_neg d]
  rw [g_X2_countWalls_e]
  exact go ((40 - (0 : Int32).toInt).toNat + 1) 0 0 (by decide) h0 (Nat.lt_succ_self _) (fun k => by
    rw [show (0 : Int32).toNatClampNeg = 0 by decide]
    show k * 0 = 0
    grind)
/-- the reference's PLACES and what they send; its WALLS -/
def plA (A : Nat → Int32) : Nat → Int32 := fun p => A (740 + 12 * p + 3)
def sdA (A : Nat → Int32) : Nat → Int32 := fun p => A (740 + 12 * p + 4)
def wlA (A : Nat → Int32) : Nat → Int32 := fun c => A (100 + 16 * c + 6)
theorem fundGoes_v {m : Int32} (h2a : 0 ≤ (ri 384 2).toInt) (h2b : (ri 384 2).toInt ≤ 40) (h5a : 0 ≤ (ri 384 5).toInt) (h5b : (ri 384 5).toInt ≤ 40) (h407 : I 407 = 0) : ∃ (B Bs : Nat → Int32) (ar lv F : Int32) (I1 : Nat → Int32), (∀ i, i ≠ 8 → Bs i = ri 384 i) ∧ g_X12_areaOf m (va_up I 410 0) J (va_up ri 384 Bs) rj rq = (ar, va_up I 410 0, J, va_up ri 384 Bs, rj, rq) ∧ g_X12_numberOf 9 m 10 (va_up I 410 0) J (va_up ri 384 (upd Bs 18 ar)) rj rq = (lv, va_up I 410 0, J, va_up ri 384 (upd Bs 18 ar), rj, rq) ∧ g_X12_fundGoes m I J ri rj rq = (I1, J, va_up ri 384 B, rj, rq) ∧ (∀ f, f ≠ 410 → I1 f = I f) ∧ I1 410 = (if F < 0 then 1 else 0) ∧ F = ri 384 8 + snC (plA (ri 384)) (sdA (ri 384)) (ri 384 5).toNatClampNeg + lv * ar / 100 - wlC (wlA (ri 384)) (ri 384 17) (ri 384 2).toNatClampNeg ∧ (∀ i, i ≠ 8 → i ≠ 12 → i ≠ 18 → B i = ri 384 i) ∧ B 18 = ar ∧ B 8 = F ∧ B 12 = (if F < 0 then (if 0 ≤ ri 384 12 then ri 384 12 else m) else ri 384 12) := by
  have k8 : (8 : Int32).toNatClampNeg = 8 := by decide
  have k12 : (12 : Int32).toNatClampNeg = 12 := by decide
  have k17 : (17 : Int32).toNatClampNeg = 17 := by decide
  have k18 : (18 : Int32).toNatClampNeg = 18 := by decide
  have z2 := clampE (ri 384 2)
  have z5 := clampE (ri 384 5)
  -- the WALLS
  have go2 : ∀ (n : Nat) (x : Int32) (A : Nat → Int32) (I0 : Nat → Int32) (ar F0 : Int32), 0 ≤ x.toInt → x.toInt ≤ (ri 384 2).toInt → (40 - x.toInt).toNat < n → (∀ i, i ≠ 8 → i ≠ 18 → A i = ri 384 i) → A 18 = ar → A 8 = F0 - wlC (wlA (ri 384)) (ri 384 17) x.toNatClampNeg → I0 410 = 0 → ∃ (B I1 : Nat → Int32), g_X12_fundGoes_L104 m J ri rj rq I0 n x (va_up ri 384 A) = (I1, J, va_up ri 384 B, rj, rq) ∧ (∀ f, f ≠ 410 → I1 f = I0 f) ∧ I1 410 = (if F0 - wlC (wlA (ri 384)) (ri 384 17) (ri 384 2).toNatClampNeg < 0 then 1 else 0) ∧ (∀ i, i ≠ 8 → i ≠ 12 → i ≠ 18 → B i = ri 384 i) ∧ B 18 = ar ∧ B 8 = F0 - wlC (wlA (ri 384)) (ri 384 17) (ri 384 2).toNatClampNeg ∧ B 12 = (if F0 - wlC (wlA (ri 384)) (ri 384 17) (ri 384 2).toNatClampNeg < 0 then (if 0 ≤ ri 384 12 then ri 384 12 else m) else ri 384 12) := by
    intro n
    induction n with
    | zero => intro x A I0 ar F0 _ _ h; exact absurd h (Nat.not_lt_zero _)
    | succ n ih =>
      intro x A I0 ar F0 h1 h2 h3 hA h18 h8 h410
      have zx := clampE x
      rw [g_X12_fundGoes_L104_e]
      simp only [↓ap1_n, va_up_self, up_up, k8, k12, k17]
      by_cases c : ri 384 2 ≤ x
      · have c1 := Int32.le_iff_toInt_le.mp c
        rw [show x.toNatClampNeg = (ri 384 2).toNatClampNeg by omega] at h8
        have a12 := hA 12 (by decide) (by decide)
        rw [if_pos c, h8, a12]
        by_cases d : F0 - wlC (wlA (ri 384)) (ri 384 17) (ri 384 2).toNatClampNeg < 0
        · simp only [if_pos d]
          by_cases w : 0 ≤ ri 384 12
          · simp only [if_pos w]
            exact ⟨A, va_up I0 410 1, rfl, fun f hf => va_up_ne _ _ hf, va_up_self _ _ _, fun i i1 _ i3 => hA i i1 i3, h18, h8, a12⟩
          · simp only [if_neg w]
            refine ⟨upd A 12 m, va_up I0 410 1, rfl, fun f hf => va_up_ne _ _ hf, va_up_self _ _ _, fun i i1 i2 i3 => (upd_n _ _ i2).trans (hA i i1 i3), (upd_n _ _ (by decide)).trans h18, (upd_n _ _ (by decide)).trans h8, upd_s _ _ _⟩
        · simp only [if_neg d]
          exact ⟨A, I0, rfl, fun _ _ => rfl, h410, fun i i1 _ i3 => hA i i1 i3, h18, h8, a12⟩
      · have c1 := Int32.lt_iff_toInt_lt.mp (Int32.not_le.mp c)
        have e := t1_inc (x := x) (by omega) (by omega)
        have z3 := clampE (x + Int32.ofInt 1)
        have hx1 : (x + Int32.ofInt 1).toNatClampNeg = x.toNatClampNeg + 1 := by omega
        have cell : g_X12_cellAt_c6 x I0 J (va_up ri 384 A) rj rq = (wlA (ri 384) x.toNatClampNeg, I0, J, va_up ri 384 A, rj, rq) := by
          have i6 := ixk (c := x) (k := 6) 6 (by decide) (by decide) h1 (by omega)
          have e6 : g_X12_cellAt_c6 x I0 J (va_up ri 384 A) rj rq = (va_up ri 384 A 384 ((100 : Int32) + (16 : Int32) * x + 6).toNatClampNeg, I0, J, va_up ri 384 A, rj, rq) := rfl
          rw [e6, i6, va_up_self, hA _ (by omega) (by omega)]
          rfl
        rw [if_neg c, bn_n cell]
        by_cases d : wlA (ri 384) x.toNatClampNeg ≤ 0
        · rw [if_pos d, g_X12_fundGoes_K141_e]
          simp only [↓ap1_n]
          refine ih _ _ _ _ _ (by omega) (by omega) (by omega) hA h18 ?_ h410
          rw [h8, hx1]
          show _ = F0 - (wlC (wlA (ri 384)) (ri 384 17) x.toNatClampNeg + (if wlA (ri 384) x.toNatClampNeg ≤ 0 then 0 else ri 384 17))
          rw [if_pos d, i_a0]
        · rw [if_neg d, g_X12_fundGoes_K141_e]
          simp only [↓ap1_n]
          refine ih _ _ _ _ _ (by omega) (by omega) (by omega) (fun i i1 i3 => (upd_n _ _ i1).trans (hA i i1 i3)) ((upd_n _ _ (by decide)).trans h18) ?_ h410
          rw [upd_s, h8, hA 17 (by decide) (by decide), hx1, i_ss]
          show _ = F0 - (wlC (wlA (ri 384)) (ri 384 17) x.toNatClampNeg + (if wlA (ri 384) x.toNatClampNeg ≤ 0 then 0 else ri 384 17))
          rw [if_neg d]
  -- those ABROAD
  have go : ∀ (n : Nat) (x : Int32) (A : Nat → Int32), 0 ≤ x.toInt → x.toInt ≤ (ri 384 5).toInt → (40 - x.toInt).toNat < n → (∀ i, i ≠ 8 → A i = ri 384 i) → A 8 = ri 384 8 + snC (plA (ri 384)) (sdA (ri 384)) x.toNatClampNeg → ∃ (Bs : Nat → Int32), (∀ i, i ≠ 8 → Bs i = ri 384 i) ∧ Bs 8 = ri 384 8 + snC (plA (ri 384)) (sdA (ri 384)) (ri 384 5).toNatClampNeg ∧ g_X12_fundGoes_L2 m I J ri rj rq n x (va_up ri 384 A) = (bnI (g_X12_areaOf m (va_up I 410 0) J (va_up ri 384 Bs) rj rq) fun ar _ _ _ _ _ => bnI (g_X12_numberOf 9 m 10 (va_up I 410 0) J (va_up ri 384 (upd Bs 18 ar)) rj rq) fun lv _ _ _ _ _ => g_X12_fundGoes_L104 m J ri rj rq (va_up I 410 0) ((40 - (0 : Int32).toInt).toNat + 1) 0 (va_up ri 384 (upd (upd Bs 18 ar) 8 (Bs 8 + lv * ar / 100)))) := by
    intro n
    induction n with
    | zero => intro x A _ _ h; exact absurd h (Nat.not_lt_zero _)
    | succ n ih =>
      intro x A h1 h2 h3 hA h8
      have zx := clampE x
      rw [g_X12_fundGoes_L2_e]
      simp only [↓ap1_n]
      by_cases c : ri 384 5 ≤ x
      · have c1 := Int32.le_iff_toInt_le.mp c
        rw [show x.toNatClampNeg = (ri 384 5).toNatClampNeg by omega] at h8
        rw [if_pos c, if_neg (show ¬ va_up I 410 0 407 = 1 by rw [va_up_ne _ _ (show (407 : Nat) ≠ 410 by decide), h407]; decide)]
        refine ⟨A, hA, h8, ?_⟩
        rw [bn_p g_X12_areaOf_f, bn_p g_X12_areaOf_f]
        try simp only [va_up_self, up_up, k8, k18]
        rw [bn_p g_X12_numberOf_f, bn_p g_X12_numberOf_f]
        try simp only [va_up_self, up_up, k8, k18]
        rw [upd_s, upd_n _ _ (show (8 : Nat) ≠ 18 by decide)]
      · have c1 := Int32.lt_iff_toInt_lt.mp (Int32.not_le.mp c)
        have e := t1_inc (x := x) (by omega) (by omega)
        have z3 := clampE (x + Int32.ofInt 1)
        have hx1 : (x + Int32.ofInt 1).toNatClampNeg = x.toNatClampNeg + 1 := by omega
        have p3 : g_X12_personAt_c3 x I J (va_up ri 384 A) rj rq = (plA (ri 384) x.toNatClampNeg, I, J, va_up ri 384 A, rj, rq) := by
          have i3 := ixp (c := x) (k := 3) 3 (by decide) (by decide) h1 (by omega)
          have e3 : g_X12_personAt_c3 x I J (va_up ri 384 A) rj rq = (va_up ri 384 A 384 ((740 : Int32) + (12 : Int32) * x + 3).toNatClampNeg, I, J, va_up ri 384 A, rj, rq) := rfl
          rw [e3, i3, va_up_self, hA _ (by omega)]
          rfl
        have p4 : g_X12_personAt_c4 x I J (va_up ri 384 A) rj rq = (sdA (ri 384) x.toNatClampNeg, I, J, va_up ri 384 A, rj, rq) := by
          have i4 := ixp (c := x) (k := 4) 4 (by decide) (by decide) h1 (by omega)
          have e4 : g_X12_personAt_c4 x I J (va_up ri 384 A) rj rq = (va_up ri 384 A 384 ((740 : Int32) + (12 : Int32) * x + 4).toNatClampNeg, I, J, va_up ri 384 A, rj, rq) := rfl
          rw [e4, i4, va_up_self, hA _ (by omega)]
          rfl
        rw [if_neg c, bn_n p3]
        by_cases d : plA (ri 384) x.toNatClampNeg = 200
        · rw [if_pos d, bn_n p4, g_X12_fundGoes_K40_e]
          simp only [↓ap1_n, va_up_self, up_up, k8]
          refine ih _ _ (by omega) (by omega) (by omega) (fun i i1 => (upd_n _ _ i1).trans (hA i i1)) ?_
          rw [upd_s, h8, hx1]
          show _ = ri 384 8 + (snC (plA (ri 384)) (sdA (ri 384)) x.toNatClampNeg + (if plA (ri 384) x.toNatClampNeg = 200 then sdA (ri 384) x.toNatClampNeg else 0))
          rw [if_pos d]
          grind
        · rw [if_neg d, g_X12_fundGoes_K40_e]
          simp only [↓ap1_n]
          refine ih _ _ (by omega) (by omega) (by omega) hA ?_
          rw [h8, hx1]
          show _ = ri 384 8 + (snC (plA (ri 384)) (sdA (ri 384)) x.toNatClampNeg + (if plA (ri 384) x.toNatClampNeg = 200 then sdA (ri 384) x.toNatClampNeg else 0))
          rw [if_neg d, i_a0]
  have n0 : (0 : Int32).toNatClampNeg = 0 := by decide
  obtain ⟨Bs, b1, b2, b3⟩ := go ((40 - (0 : Int32).toInt).toNat + 1) 0 (ri 384) (by decide) h5a (Nat.lt_succ_self _) (fun _ _ => rfl) (by
    rw [n0]
    show _ = ri 384 8 + 0
    rw [i_a0])
  rw [up_id] at b3
  have pa := fg_pure (g_X12_areaOf_f (a0 := m) (I := va_up I 410 0) (J := J) (ri := va_up ri 384 Bs) (rj := rj) (rq := rq))
  generalize (g_X12_areaOf m (va_up I 410 0) J (va_up ri 384 Bs) rj rq).1 = ar at pa
  have pn := fg_pure (g_X12_numberOf_f (a0 := 9) (a1 := m) (a2 := 10) (I := va_up I 410 0) (J := J) (ri := va_up ri 384 (upd Bs 18 ar)) (rj := rj) (rq := rq))
  generalize (g_X12_numberOf 9 m 10 (va_up I 410 0) J (va_up ri 384 (upd Bs 18 ar)) rj rq).1 = lv at pn
  rw [bn_n pa, bn_n pn] at b3
  obtain ⟨B, I1, c1, c2, c3, c4, c5, c6, c7⟩ := go2 ((40 - (0 : Int32).toInt).toNat + 1) 0 (upd (upd Bs 18 ar) 8 (Bs 8 + lv * ar / 100)) (va_up I 410 0) ar (ri 384 8 + snC (plA (ri 384)) (sdA (ri 384)) (ri 384 5).toNatClampNeg + lv * ar / 100) (by decide) h2a (Nat.lt_succ_self _) (fun i i1 i2 => by rw [upd_n _ _ i1, upd_n _ _ i2]; exact b1 i i1) (by rw [upd_n _ _ (by decide), upd_s]) (by
    rw [upd_s, n0, b2]
    show _ = _ - 0
    rw [i_s0]) (va_up_self _ _ _)
  refine ⟨B, Bs, ar, lv, _, I1, b1, pa, pn, ?_, fun f hf => (c2 f hf).trans (va_up_ne _ _ hf), c3, rfl, c4, c5, c6, c7⟩
  rw [g_X12_fundGoes_e]
  exact b3.trans c1
end PU21
/-! ===== pure: AREA and THE FUND, both sides alike (behind pu21, px2) ===== -/
section PU22
variable {I : Nat → Int32} {J : Nat → Int64} {ri : Nat → Nat → Int32} {rj : Nat → Nat → Int64} {rq : Nat → Nat → Option Nat}
variable {U : Nat → Int32} {V : Nat → Int64} {si : Nat → Nat → Int32} {sj : Nat → Nat → Int64} {sq : Nat → Nat → Option Nat}
variable {tI : Nat → Nat → Int32} {tR : Nat → Nat → Nat → Int32}
/-- what AREA hangs on: REACH, the places, the ROCKS of months up to m -/
def ARH (m : Nat) (I : Nat → Int32) (ri : Nat → Nat → Int32) (rj : Nat → Nat → Int64) (A : Nat → Int32) : Prop := I 237 = A 16 ∧ (0 ≤ (A 16).toInt ∧ (A 16).toInt ≤ 20) ∧ (∀ c, c < 40 → ri 71 c = A (100 + 16 * c + 2) ∧ ri 72 c = A (100 + 16 * c + 3) ∧ (0 ≤ (A (100 + 16 * c + 2)).toInt ∧ (A (100 + 16 * c + 2)).toInt ≤ 31) ∧ (0 ≤ (A (100 + 16 * c + 3)).toInt ∧ (A (100 + 16 * c + 3)).toInt ≤ 31)) ∧ ∀ f, f < m → ∀ c, c < (I 65).toNatClampNeg → hb (rj 68 f) c = rkA A f c
/-- what THE FUND hangs on -/
def FUH (I : Nat → Int32) (ri : Nat → Nat → Int32) (A : Nat → Int32) : Prop := I 0 = A 5 ∧ I 238 = A 17 ∧ I 321 = A 8 ∧ I 323 = A 12 ∧ (-1 ≤ (A 12).toInt) ∧ (∀ p, p < (I 0).toNatClampNeg → (ri 5 p = 200 ↔ A (740 + 12 * p + 3) = 200) ∧ ri 4 p = A (740 + 12 * p + 4)) ∧ ∀ c, c < (I 65).toNatClampNeg → ri 75 c = A (100 + 16 * c + 6)
theorem mth_r {mo y : Int32} {m : Nat} (hm : mo.toInt = (m : Int)) : ∃ s : Nat, (mth mo y).toInt = (s : Int) ∧ s ≤ m := by
  have k0 : (0 : Int32).toInt = 0 := by decide
  unfold mth
  by_cases q : y < 0
  · rw [if_pos q]; exact ⟨m, hm, Nat.le_refl _⟩
  · rw [if_neg q]
    have q0 : ¬ y.toInt < (0 : Int32).toInt := fun z => q (Int32.lt_iff_toInt_lt.mpr z)
    by_cases q2 : mo ≤ y
    · rw [if_pos q2]; exact ⟨m, hm, Nat.le_refl _⟩
    · rw [if_neg q2]
      have q3 : ¬ mo.toInt ≤ y.toInt := fun z => q2 (Int32.le_iff_toInt_le.mpr z)
      exact ⟨y.toInt.toNat, by omega, by omega⟩
theorem lz_8 {j : Nat} (h : zn j ∈ lzt) : j ≠ 8 ∧ j ≠ 12 ∧ j ≠ 18 := ⟨fun e => by subst e; exact absurd h (by decide), fun e => by subst e; exact absurd h (by decide), fun e => by subst e; exact absurd h (by decide)⟩
theorem TXS_A {A A' : Nat → Int32} (h : TXS I rq tI tR A) (e : ∀ i, i ≠ 8 → i ≠ 12 → i ≠ 18 → A' i = A i) : TXS I rq tI tR A' := TXS_cg h rfl (fun _ _ => rfl) (fun _ _ _ _ => ⟨rfl, fun _ _ => rfl⟩) (fun j hj => e j (lz_8 hj).1 (lz_8 hj).2.1 (lz_8 hj).2.2)
theorem FCS_A {A A' : Nat → Int32} (h : FCS I ri A) (e : ∀ i, i ≠ 8 → i ≠ 12 → i ≠ 18 → A' i = A i) : FCS I ri A' := FCS_cg h rfl (fun _ _ _ _ => rfl) (e 7 (by decide) (by decide) (by decide)) (fun i _ _ => e i (by omega) (by omega) (by omega)) (by
  rw [e 6 (by decide) (by decide) (by decide)]
  exact Int.le_refl _)
set_option maxHeartbeats 1000000 in
theorem reckon_sim {m : Int32} {n : Nat} (hT : TXS I rq tI tR (si 384)) (hF : FCS I ri (si 384)) (h407 : U 407 = 0) (em : I 320 = m) (hm : m.toInt = (n : Int)) (hm6 : n < 600) (e65 : I 65 = si 384 2) (h65 : 0 ≤ (si 384 2).toInt ∧ (si 384 2).toInt ≤ 40) (h5 : 0 ≤ (si 384 5).toInt ∧ (si 384 5).toInt ≤ 40) (hA : ARH (n + 1) I ri rj (si 384)) : ∃ (I1 : Nat → Int32) (r1 : Nat → Nat → Int32) (B U1 : Nat → Int32), g_X10_reckon tI tR I J ri rj rq = (I1, J, r1, rj, rq) ∧ g_X12_fundGoes m U V si sj sq = (U1, V, va_up si 384 B, sj, sq) ∧ (∀ f, f ≠ 321 → f ≠ 323 → f ≠ 324 → I1 f = I f) ∧ (∀ t, t ≠ 82 → t ≠ 83 → r1 t = ri t) ∧ I1 324 = B 18 ∧ (∀ f, f ≠ 410 → U1 f = U f) ∧ (∀ i, i ≠ 8 → i ≠ 12 → i ≠ 18 → B i = si 384 i) ∧ (FUH I ri (si 384) → I1 321 = B 8 ∧ I1 323 = B 12 ∧ (-1 ≤ (B 12).toInt) ∧ U1 410 = (if B 8 < 0 then 1 else 0)) := by
  obtain ⟨a1, a2, a3, a4⟩ := hA
  have k0 : (0 : Int32).toInt = 0 := by decide
  have km : (-1 : Int32).toInt = -1 := by decide
  have k6 : (600 : Int32).toInt = 600 := by decide
  have z65 := clampE (I 65)
  obtain ⟨N, hN⟩ : ∃ N : Nat, (si 384 2).toInt = (N : Int) := ⟨(si 384 2).toInt.toNat, by omega⟩
  have cN : (I 65).toNatClampNeg = N := by rw [e65]; exact at_n hN
  obtain ⟨R, hR⟩ : ∃ R : Nat, (si 384 16).toInt = (R : Int) := ⟨(si 384 16).toInt.toNat, by omega⟩
  obtain ⟨B, Bs, ar, lv, F, U1, b1, b2, b3, b4, b5, b6, b7, b8, b9, b10, b11⟩ := fundGoes_v (I := U) (J := V) (ri := si) (rj := sj) (rq := sq) (m := m) h65.1 h65.2 h5.1 h5.2 h407
  have hT1 : TXS I rq tI tR (va_up si 384 Bs 384) := by rw [va_up_self]; exact TXS_A hT (fun i i1 _ _ => b1 i i1)
  have hF1 : FCS I ri (va_up si 384 Bs 384) := by rw [va_up_self]; exact FCS_A hF (fun i i1 _ _ => b1 i i1)
  obtain ⟨y, f1, f2⟩ := fx_m (I := I) (J := J) (ri := ri) (rj := rj) (rq := rq) (U := va_up U 410 0) (V := V) (si := va_up si 384 Bs) (sj := sj) (sq := sq) (tI := tI) (tR := tR) (mo := m) hT1 hF1
  obtain ⟨s, hs, hs2⟩ := mth_r (y := y) hm
  obtain ⟨v, r', g1, g2, g3⟩ := area_v (I := I) (J := J) (rj := rj) (rq := rq) (U := va_up U 410 0) (V := V) (si := va_up si 384 Bs) (sj := sj) (sq := sq) (a0 := rj 68 s) (a1 := I 237) (x19 := mth m y) (R := R) (N := N) (m := s) (r := ri) (by rw [a1]; exact hR) (by omega) (by rw [va_up_self, b1 16 (by decide)]; exact hR) (by rw [e65]; exact hN) (by omega) (by rw [va_up_self, b1 2 (by decide)]; exact hN) hs (by omega) (fun c hc => by rw [va_up_self, b1 _ (by omega)]; exact (a3 c (by omega)).1) (fun c hc => by rw [va_up_self, b1 _ (by omega)]; exact (a3 c (by omega)).2.1) (fun c hc => by rw [va_up_self, b1 _ (by omega), b1 _ (by omega)]; exact (a3 c (by omega)).2.2) (fun c hc => by
    rw [a4 s (by omega) c (by rw [cN]; exact hc)]
    unfold rkA
    rw [va_up_self, b1 _ (by omega), b1 _ (by omega)])
  have ev : ar = v := by
    rw [f2, g3] at b2
    exact (Prod.mk.inj b2).1.symm
  subst ev
  -- LEAVE, behind AREA
  have hT2 : TXS (va_up I 324 ar) rq tI tR (va_up si 384 (upd Bs 18 ar) 384) := by
    rw [va_up_self]
    exact TXS_A (TXS_cg hT (va_up_ne _ _ (by decide)) (fun _ _ => rfl) (fun _ _ _ _ => ⟨rfl, fun _ _ => rfl⟩) (fun _ _ => rfl)) (fun i i1 _ i3 => (upd_n _ _ i3).trans (b1 i i1))
  have hF2 : FCS (va_up I 324 ar) r' (va_up si 384 (upd Bs 18 ar) 384) := by
    rw [va_up_self]
    exact FCS_A (FCS_cg hF (va_up_ne _ _ (by decide)) (fun t ht j _ => by
      have ht2 : t ≠ 82 ∧ t ≠ 83 := (by decide : ∀ t, t ∈ [99, 100, 101] → t ≠ 82 ∧ t ≠ 83) t ht
      rw [g2 t ht2.1 ht2.2]) rfl (fun _ _ _ => rfl) (Int.le_refl _)) (fun i i1 _ i3 => (upd_n _ _ i3).trans (b1 i i1))
  obtain ⟨l, l1, l2⟩ := lv_m (I := va_up I 324 ar) (J := J) (ri := r') (rj := rj) (rq := rq) (U := va_up U 410 0) (V := V) (si := va_up si 384 (upd Bs 18 ar)) (sj := sj) (sq := sq) (tI := tI) (tR := tR) (mo := m) hT2 hF2
  have el : lv = l := by
    rw [l2] at b3
    exact (Prod.mk.inj b3).1.symm
  subst el
  obtain ⟨w, w1, w2⟩ := countWalls_v (I := va_up I 324 ar) (J := J) (ri := r') (rj := rj) (rq := rq) (by rw [va_up_ne _ _ (show (65 : Nat) ≠ 324 by decide), e65]; exact h65.1) (by rw [va_up_ne _ _ (show (65 : Nat) ≠ 324 by decide), e65]; exact h65.2)
  -- what those ABROAD send, whatever it is
  have ps := fg_pure (g_X0_sendings_f (I := va_up I 324 ar) (J := J) (ri := r') (rj := rj) (rq := rq))
  generalize hsn : (g_X0_sendings (va_up I 324 ar) J r' rj rq).1 = sn at ps
  have red : g_X10_reckon tI tR I J ri rj rq = g_X10_reckon_K43 I J ri rj rq tI tR (mth m y) := by
    rw [g_X10_reckon_e]
    simp only [↓ap1_n]
    rw [em, if_pos (Int32.lt_iff_toInt_lt.mpr (by omega)), bn_n f1]
    unfold mth
    by_cases q : y < 0
    · rw [if_pos q, if_pos q, g_X10_reckon_K39_e]
    · rw [if_neg q, if_neg q]
      by_cases q2 : m ≤ y
      · rw [if_pos q2, if_pos q2, g_X10_reckon_K39_e]
      · rw [if_neg q2, if_neg q2]
  generalize hG : I 321 + (sn + lv * ar / 100 - I 238 * w) = G at *
  have i320 : va_up I 324 ar 320 = m := (va_up_ne _ _ (by decide)).trans em
  have red2 : g_X10_reckon_K43 I J ri rj rq tI tR (mth m y) = (if 0 ≤ G then (va_up (va_up I 324 ar) 321 G, J, r', rj, rq) else if I 323 = -1 then (va_up (va_up (va_up I 324 ar) 321 G) 323 m, J, r', rj, rq) else (va_up (va_up I 324 ar) 321 G, J, r', rj, rq)) := by
    rw [g_X10_reckon_K43_e]
    simp only [↓ap1_n]
    rw [at_n hs, bn_n g1]
    try simp only [va_up_self]
    rw [bn_n ps, i320, bn_n l1]
    try simp only [va_up_self]
    rw [bn_n w1]
    try simp only [va_up_self]
    rw [va_up_ne _ _ (show (321 : Nat) ≠ 324 by decide), va_up_ne _ _ (show (238 : Nat) ≠ 324 by decide), hG, va_up_ne _ _ (show (323 : Nat) ≠ 321 by decide), va_up_ne _ _ (show (323 : Nat) ≠ 324 by decide), va_up_ne _ _ (show (320 : Nat) ≠ 321 by decide), i320]
  rw [red, red2]
  have fund : FUH I ri (si 384) → G = B 8 := fun ⟨u0, u1, u2, _, _, u5, u6⟩ => by
    have s1 : sn = snC (r' 5) (r' 4) (I 0).toNatClampNeg := by
      have e0 : va_up I 324 ar 0 = I 0 := va_up_ne _ _ (by decide)
      have := sendings_v (I := va_up I 324 ar) (J := J) (ri := r') (rj := rj) (rq := rq) (by rw [e0, u0]; exact h5.1) (by rw [e0, u0]; exact h5.2)
      rw [← hsn, this, e0]
    have s2 : snC (r' 5) (r' 4) (I 0).toNatClampNeg = snC (plA (si 384)) (sdA (si 384)) (si 384 5).toNatClampNeg := by
      rw [u0]
      refine snC_cg _ (fun p hp => ?_)
      rw [g2 5 (by decide) (by decide), g2 4 (by decide) (by decide)]
      exact u5 p (by rw [u0]; exact hp)
    have s3 : I 238 * w = wlC (wlA (si 384)) (si 384 17) (si 384 2).toNatClampNeg := by
      rw [w2, va_up_ne _ _ (show (65 : Nat) ≠ 324 by decide), u1, g2 75 (by decide) (by decide), e65]
      exact wlC_cg _ (fun c hc => u6 c (by rw [e65]; exact hc))
    rw [b10, b7, ← hG, s1, s2, s3, u2]
    exact i_fu _ _ _ _
  by_cases q : 0 ≤ G
  · rw [if_pos q]
    refine ⟨_, _, B, U1, rfl, b4, fun f f1 _ f3 => by rw [va_up_ne _ _ f1, va_up_ne _ _ f3], g2, ?_, b5, b8, fun hU => ?_⟩
    · rw [va_up_ne _ _ (show (324 : Nat) ≠ 321 by decide), va_up_self]; exact b9.symm
    · have eg := fund hU
      have nq : ¬ F < 0 := fun z => by
        rw [← b10, ← eg] at z
        have q1 := Int32.le_iff_toInt_le.mp q
        have q2 := Int32.lt_iff_toInt_lt.mp z
        omega
      rw [if_neg nq] at b11 b6
      refine ⟨by rw [va_up_self]; exact eg, ?_, by rw [b11]; exact hU.2.2.2.2.1, by rw [b6, if_neg (by rw [b10]; exact nq)]⟩
      rw [va_up_ne _ _ (show (323 : Nat) ≠ 321 by decide), va_up_ne _ _ (show (323 : Nat) ≠ 324 by decide), b11]
      exact hU.2.2.2.1
  · rw [if_neg q]
    have q1 : G < 0 := Int32.not_le.mp q
    by_cases p : I 323 = -1
    · rw [if_pos p]
      refine ⟨_, _, B, U1, rfl, b4, fun f f1 f2 f3 => by rw [va_up_ne _ _ f2, va_up_ne _ _ f1, va_up_ne _ _ f3], g2, ?_, b5, b8, fun hU => ?_⟩
      · rw [va_up_ne _ _ (show (324 : Nat) ≠ 323 by decide), va_up_ne _ _ (show (324 : Nat) ≠ 321 by decide), va_up_self]; exact b9.symm
      · have eg := fund hU
        have nq : F < 0 := by rw [← b10, ← eg]; exact q1
        have p2 : si 384 12 = -1 := hU.2.2.2.1.symm.trans p
        rw [if_pos nq] at b11 b6
        rw [p2, if_neg (show ¬ (0 : Int32) ≤ -1 by decide)] at b11
        refine ⟨by rw [va_up_ne _ _ (show (321 : Nat) ≠ 323 by decide), va_up_self]; exact eg, by rw [va_up_self, b11], by rw [b11, hm]; omega, by rw [b6, if_pos (by rw [b10]; exact nq)]⟩
    · rw [if_neg p]
      refine ⟨_, _, B, U1, rfl, b4, fun f f1 _ f3 => by rw [va_up_ne _ _ f1, va_up_ne _ _ f3], g2, ?_, b5, b8, fun hU => ?_⟩
      · rw [va_up_ne _ _ (show (324 : Nat) ≠ 321 by decide), va_up_self]; exact b9.symm
      · have eg := fund hU
        have nq : F < 0 := by rw [← b10, ← eg]; exact q1
        have e12 : I 323 = si 384 12 := hU.2.2.2.1
        have p2 : 0 ≤ si 384 12 := Int32.le_iff_toInt_le.mpr (by
          have h1 := hU.2.2.2.2.1
          have h2 : (si 384 12).toInt ≠ -1 := fun z => p (by rw [e12]; exact Int32.toInt_inj.mp (z.trans km.symm))
          omega)
        rw [if_pos nq] at b11 b6
        rw [if_pos p2] at b11
        refine ⟨by rw [va_up_self]; exact eg, ?_, by rw [b11]; exact hU.2.2.2.2.1, by rw [b6, if_pos (by rw [b10]; exact nq)]⟩
        rw [va_up_ne _ _ (show (323 : Nat) ≠ 321 by decide), va_up_ne _ _ (show (323 : Nat) ≠ 324 by decide), b11]
        exact e12
end PU22
/-! ===== pure: a month of the reference up to THE FUND (behind pu22) ===== -/
section PU23
variable {I : Nat → Int32} {J : Nat → Int64} {ri : Nat → Nat → Int32} {rj : Nat → Nat → Int64} {rq : Nat → Nat → Option Nat}
variable {U : Nat → Int32} {V : Nat → Int64} {si : Nat → Nat → Int32} {sj : Nat → Nat → Int64} {sq : Nat → Nat → Option Nat}
/-- all but what drinking and sleep write -/
def zq (f g : Nat → Int32) : Prop := ∀ i, (∀ c, c < 40 → i ≠ 100 + 16 * c + 9) → (∀ p k, p < 40 → k ∈ [5, 6] → i ≠ 740 + 12 * p + k) → g i = f i
theorem zq_rf {f : Nat → Int32} : zq f f := fun _ _ _ => rfl
theorem zq_tr {f g h : Nat → Int32} (a : zq f g) (b : zq g h) : zq f h := fun i x y => (b i x y).trans (a i x y)
theorem zq_l {f : Nat → Int32} {c : Nat} {v : Int32} (hc : c < 40) : zq f (upd f (100 + 16 * c + 9) v) := fun i y _ => upd_n _ _ (y c hc)
theorem zq_p {f : Nat → Int32} {p k : Nat} {v : Int32} (hp : p < 40) (hk : k ∈ [5, 6]) : zq f (upd f (740 + 12 * p + k) v) := fun i _ z => upd_n _ _ (z p k hp hk)
theorem drink_q (h2a : 0 ≤ (ri 384 2).toInt) (h2b : (ri 384 2).toInt ≤ 40) (h5b : (ri 384 5).toInt ≤ 40) : ∃ B : Nat → Int32, g_X12_drink I J ri rj rq = (I, J, va_up ri 384 B, rj, rq) ∧ zq (ri 384) B := by
  have go : ∀ (n : Nat) (x : Int32) (A : Nat → Int32), 0 ≤ x.toInt → (40 - x.toInt).toNat < n → zq (ri 384) A → ∃ B : Nat → Int32, g_X12_drink_L2 I J ri rj rq n x (va_up ri 384 A) = (I, J, va_up ri 384 B, rj, rq) ∧ zq (ri 384) B := by
    intro n
    induction n with
    | zero => intro x A _ h; exact absurd h (Nat.not_lt_zero _)
    | succ n ih =>
      intro x A h1 h3 hA
      have zx := clampE x
      rw [g_X12_drink_L2_e]
      simp only [↓ap1_n]
      by_cases c : ri 384 5 ≤ x
      · rw [if_pos c]; exact ⟨A, rfl, hA⟩
      · have c1 := Int32.lt_iff_toInt_lt.mp (Int32.not_le.mp c)
        have e := t1_inc (x := x) (by omega) (by omega)
        rw [if_neg c, bn_p g_X12_isOnRing_f]
        split
        · simp only [g_X12_drink_K107, ↓ap1_n]
          exact ih _ _ (by omega) (by omega) hA
        · obtain ⟨y, hy0, hy⟩ := drink_to (I := I) (J := J) (rj := rj) (rq := rq) (ri := ri) (p := x) (k := g_X12_drink_L2 I J ri rj rq n) (r := va_up ri 384 A) h2b ((40 - (0 : Int32).toInt).toNat + 1) 0 (by decide) h2a (Nat.lt_succ_self _)
          rw [hy]
          simp only [g_X12_drink_K55, g_X12_drink_K107, ↓ap1_n, va_up_self, up_up]
          by_cases d : ri 384 2 ≤ y
          · rw [if_pos d, ixp (c := x) (k := 5) 5 (by decide) (by decide) h1 (by omega)]
            exact ih _ _ (by omega) (by omega) (zq_tr hA (zq_p (by omega) (by decide)))
          · have d1 := Int32.lt_iff_toInt_lt.mp (Int32.not_le.mp d)
            have zy := clampE y
            rw [if_neg d, ixk (c := y) (k := 9) 9 (by decide) (by decide) hy0 (by omega)]
            exact ih _ _ (by omega) (by omega) (zq_tr hA (zq_l (by omega)))
  rw [g_X12_drink_e]
  have h := go ((40 - (0 : Int32).toInt).toNat + 1) 0 (ri 384) (by decide) (Nat.lt_succ_self _) zq_rf
  rw [up_id] at h
  exact h
theorem sleep_q (h1b : (ri 384 1).toInt ≤ 5) (h2b : (ri 384 2).toInt ≤ 40) (h5b : (ri 384 5).toInt ≤ 40) : ∃ B : Nat → Int32, g_X12_sleep I J ri rj rq = (I, J, va_up ri 384 B, rj, rq) ∧ zq (ri 384) B := by
  have go : ∀ (n : Nat) (x : Int32) (A : Nat → Int32), 0 ≤ x.toInt → (5 - x.toInt).toNat < n → zq (ri 384) A → ∃ B : Nat → Int32, g_X12_sleep_L2 I J ri rj rq n x (va_up ri 384 A) = (I, J, va_up ri 384 B, rj, rq) ∧ zq (ri 384) B := by
    intro n
    induction n with
    | zero => intro x A _ h; exact absurd h (Nat.not_lt_zero _)
    | succ n ih =>
      intro x A h1 h3 hA
      rw [g_X12_sleep_L2_e]
      simp only [↓ap1_n]
      by_cases c : ri 384 1 ≤ x
      · rw [if_pos c]; exact ⟨A, rfl, hA⟩
      · have c1 := Int32.lt_iff_toInt_lt.mp (Int32.not_le.mp c)
        have e := t1_inc (x := x) (by omega) (by omega)
        rw [if_neg c]
        -- the PERSONS of a RING
        have inner : ∀ (m : Nat) (b p : Int32) (A : Nat → Int32), 0 ≤ p.toInt → (40 - p.toInt).toNat < m → zq (ri 384) A → ∃ B : Nat → Int32, g_X12_sleep_L58 I J ri rj rq x (g_X12_sleep_L2 I J ri rj rq n) m b p (va_up ri 384 A) = (I, J, va_up ri 384 B, rj, rq) ∧ zq (ri 384) B := by
          intro m
          induction m with
          | zero => intro b p A _ h; exact absurd h (Nat.not_lt_zero _)
          | succ m im =>
            intro b p A p1 p3 hA
            have zp := clampE p
            rw [g_X12_sleep_L58_e]
            simp only [↓ap1_n]
            by_cases c2 : ri 384 5 ≤ p
            · rw [if_pos c2]
              exact ih _ _ (by omega) (by omega) hA
            · have c3 := Int32.lt_iff_toInt_lt.mp (Int32.not_le.mp c2)
              have e2 := t1_inc (x := p) (by omega) (by omega)
              rw [if_neg c2, bn_p g_X12_personAt_c3_f]
              simp only [g_X12_sleep_K111, ↓ap1_n, va_up_self, up_up]
              split
              · split
                · rw [ixp (c := p) (k := 6) 6 (by decide) (by decide) p1 (by omega)]
                  exact im _ _ _ (by omega) (by omega) (zq_tr hA (zq_p (by omega) (by decide)))
                · exact im _ _ _ (by omega) (by omega) hA
              · exact im _ _ _ (by omega) (by omega) hA
        have beds : ∀ (m : Nat) (b y : Int32), 0 ≤ y.toInt → (40 - y.toInt).toNat < m → ∃ B : Nat → Int32, g_X12_sleep_L16 I J ri rj rq x (va_up ri 384 A) (g_X12_sleep_L2 I J ri rj rq n) m b y = (I, J, va_up ri 384 B, rj, rq) ∧ zq (ri 384) B := by
          intro m
          induction m with
          | zero => intro b y _ h; exact absurd h (Nat.not_lt_zero _)
          | succ m im =>
            intro b y y1 y3
            rw [g_X12_sleep_L16_e]
            simp only [↓ap1_n]
            by_cases c2 : ri 384 2 ≤ y
            · rw [if_pos c2]
              exact inner _ _ _ _ (by decide) (Nat.lt_succ_self _) hA
            · have c3 := Int32.lt_iff_toInt_lt.mp (Int32.not_le.mp c2)
              have e2 := t1_inc (x := y) (by omega) (by omega)
              rw [if_neg c2, bn_p g_X12_cellAt_c0_f]
              simp only [g_X12_sleep_K48, ↓ap1_n]
              split
              · rw [bn_p g_X12_cellAt_c7_f]
                exact im _ _ (by omega) (by omega)
              · exact im _ _ (by omega) (by omega)
        exact beds _ _ _ (by decide) (Nat.lt_succ_self _)
  rw [g_X12_sleep_e]
  have h := go ((5 - (0 : Int32).toInt).toNat + 1) 0 (ri 384) (by decide) (Nat.lt_succ_self _) zq_rf
  rw [up_id] at h
  exact h
/-- a month of the reference up to THE FUND -/
theorem month_q {a0 : Int32} (h : RSL I ri (si 384)) (h6 : (I 320).toInt < 600) : ∃ S : Nat → Nat → Int32, g_X12_month a0 U V si sj sq = (bnV (g_X12_fundGoes (si 384 0) U V S sj sq) fun U2 _ S2 _ _ => bnV (g_X12_boatsGo (si 384 0) U2 V S2 sj sq) fun U3 _ S3 L3 _ => ((U3, V, va_up S3 384 (upd (S3 384) 0 (si 384 0 + 1)), L3, sq) : vM)) ∧ (∀ t, t ≠ 384 → t ≠ 409 → S t = si t) ∧ (∀ i, i ≠ 9 → (i < 2520 ∨ 3720 ≤ i) → (∀ c k, c < 40 → k ∈ [4, 5, 7, 9, 10, 11, 12, 13] → i ≠ 100 + 16 * c + k) → (∀ p k, p < 40 → k ∈ [5, 6] → i ≠ 740 + 12 * p + k) → S 384 i = si 384 i) ∧ (∀ c, c < 40 → S 384 (100 + 16 * c + 12) = (if c < (I 65).toNatClampNeg then (if dryN a0 I ri c = true then 1 else 0) else si 384 (100 + 16 * c + 12)) ∧ S 384 (100 + 16 * c + 11) = (if c < (I 65).toNatClampNeg then (if dryN a0 I ri c = true then 0 else si 384 (100 + 16 * c + 11) + 1) else si 384 (100 + 16 * c + 11))) ∧ (∀ c, c < 40 → (rkA (S 384) (I 320).toNatClampNeg c = true ↔ rockN a0 I ri c = true)) ∧ ∀ i, 2520 ≤ i → i < 3720 → i ≠ 2520 + 2 * (I 320).toNatClampNeg → i ≠ 2520 + 2 * (I 320).toNatClampNeg + 1 → S 384 i = si 384 i := by
  obtain ⟨⟨⟨m0, m6⟩, ⟨c0, c4⟩, ⟨l0, l2⟩⟩, ⟨⟨r0, r5⟩, ⟨p0, p4⟩, q4⟩, ⟨e0, e1, e2, e3⟩, hlv, ⟨htb, hb, hg, hd⟩, hld, hnx⟩ := h
  have k0 : (0 : Int32).toNatClampNeg = 0 := by decide
  have tm := tmod_r (m := I 320) m0 (by omega)
  have ztm := clampE (tmod (I 320))
  have tmS : 0 ≤ (tmod (si 384 0)).toInt ∧ (tmod (si 384 0)).toInt ≤ 11 := by rw [← e0]; exact tm
  have ztS := clampE (tmod (si 384 0))
  have hT := htb (tmod (I 320)).toNatClampNeg (by omega)
  rw [e0] at m0 m6 h6
  rw [e2] at c0 c4
  rw [e3] at l0 l2
  rw [g_X12_month_e]
  simp only [↓ap1_n]
  -- REEF
  obtain ⟨A1, ev1, z1, v1⟩ := reefGoes_v (I := U) (J := V) (ri := si) (rj := sj) (rq := sq) (m := si 384 (0 : Int32).toNatClampNeg) (by rw [k0]; exact m0) (by rw [k0]; omega) c0 c4
  rw [ev1]
  simp only [bnV_u]
  rw [k0] at v1 ⊢
  have f1 : ∀ i, (∀ c, c < 40 → i ≠ 100 + 16 * c + 5) → va_up si 384 A1 384 i = si 384 i := fun i hi => by rw [va_up_self]; exact z1 i hi
  have re1 : ∀ c, c < 40 → va_up si 384 A1 384 (100 + 16 * c + 5) = reN I ri c := fun c hc => by
    rw [va_up_self, v1 c hc]
    unfold reN
    rw [(hld c hc).2.2.2.1, e2]
    have er : rfm (si 384) (tmod (si 384 0)).toNatClampNeg = rfN I ri := by
      unfold rfm rfN
      rw [hb, hg, hd, hT.2.2.1, ← e0]
    rw [er]
  -- SAND
  have c2' : va_up si 384 A1 384 2 = I 65 := (f1 2 (fun c _ => by omega)).trans e2.symm
  obtain ⟨g, A2, ev2, z2, v2⟩ := sandGoes_v (I := U) (J := V) (ri := va_up si 384 A1) (rj := sj) (rq := sq) (m := si 384 0) (nx := ri 79) (s := ri 73) (w := ri 75) (rg := ri 69) m0 (by omega) (by rw [c2', e2]; exact c0) (by rw [c2', e2]; exact c4) (by rw [c2']; exact hnx.1) (fun c hc => (f1 _ (fun c2 _ => by omega)).trans (hld c hc).1) (fun c hc => (f1 _ (fun c2 _ => by omega)).trans (hld c hc).2.2.1) (fun c hc => ⟨(f1 _ (fun c2 _ => by omega)).trans (hld c hc).2.2.2.2.1, (hld c hc).2.2.2.2.2⟩)
  rw [ev2]
  simp only
  generalize hS2 : va_up (va_up (va_up si 384 A1) 409 g) 384 A2 = S2
  have S2a : S2 384 = A2 := by rw [← hS2, va_up_self]
  have S2o : ∀ t, t ≠ 384 → t ≠ 409 → S2 t = si t := fun t h1 h2 => by rw [← hS2, va_up_ne _ _ h1, va_up_ne _ _ h2, va_up_ne _ _ h1]
  have f2 : ∀ i, i ≠ 9 → (∀ c k, c < 40 → k ∈ [4, 5] → i ≠ 100 + 16 * c + k) → S2 384 i = si 384 i := fun i h9 hi => by
    rw [S2a, z2 i h9 (fun c hc => hi c 4 hc (by decide))]
    exact f1 i (fun c hc => hi c 5 hc (by decide))
  have sd2 : ∀ c, c < 40 → S2 384 (100 + 16 * c + 4) = sdN I ri c := fun c hc => by
    rw [S2a, v2 c hc, c2', f1 _ (fun c2 _ => by omega)]
    unfold sdN
    rw [hT.2.2.2, e0]
  have re2 : ∀ c, c < 40 → S2 384 (100 + 16 * c + 5) = reN I ri c := fun c hc => by
    rw [S2a, z2 _ (by omega) (fun c2 _ => by omega)]
    exact re1 c hc
  -- the LEVEL
  have n3 : S2 384 3 = I 224 := (f2 3 (by decide) (fun c k _ hk => by simp only [List.mem_cons, List.not_mem_nil, or_false] at hk; omega)).trans e3.symm
  have hlvl : g_X12_levelAt a0 (si 384 0) (si 384 0) U V S2 sj sq = (lvN a0 I ri, U, V, S2, sj, sq) := by
    rw [levelAt_v (by rw [n3, e3]; exact l0) (by rw [n3, e3]; exact l2), n3]
    have a5 : ∀ o, o ≤ 4 → ∀ k, k < 200 → A5 (S2 384) o k = A5 (si 384) o k := fun o ho k hk => f2 _ (by omega) (fun c k2 _ hk2 => by simp only [List.mem_cons, List.not_mem_nil, or_false] at hk2; omega)
    have hn2 : (I 224).toNatClampNeg ≤ 200 := by
      have z := clampE (I 224)
      rw [e3] at z ⊢
      omega
    have hL : LVR (ri 225) (ri 226) (ri 227) (ri 228) (A5 (S2 384) 0) (A5 (S2 384) 1) (A5 (S2 384) 2) (A5 (S2 384) 3) (A5 (S2 384) 4) (I 224).toNatClampNeg := fun k hk => by
      rw [a5 0 (by decide) k (by omega), a5 1 (by decide) k (by omega), a5 2 (by decide) k (by omega), a5 3 (by decide) k (by omega), a5 4 (by decide) k (by omega)]
      exact hlv k hk
    rw [← fin_eq hL, ← e0]
    rfl
  rw [hlvl]
  simp only [bnI_u]
  -- the tides
  have S22 : S2 384 2 = I 65 := (f2 2 (by decide) (fun c k _ hk => by simp only [List.mem_cons, List.not_mem_nil, or_false] at hk; omega)).trans e2.symm
  obtain ⟨A3, ev3, z3, v3, w3, k3, r3⟩ := seaStands_r (I := U) (J := V) (ri := S2) (rj := sj) (rq := sq) (m := si 384 0) (lv := lvN a0 I ri) m0 h6 (by rw [S22, e2]; exact c0) (by rw [S22, e2]; exact c4)
  rw [ev3]
  simp only
  have f3 : ∀ i, i ≠ 9 → (i < 2520 ∨ 3720 ≤ i) → (∀ c k, c < 40 → k ∈ [4, 5, 7, 9, 10, 11, 12, 13] → i ≠ 100 + 16 * c + k) → A3 i = si 384 i := fun i h9 hr hi => by
    rw [z3 i hr (fun c k hc hk => hi c k hc (by simp only [List.mem_cons, List.not_mem_nil, or_false] at hk ⊢; omega))]
    exact f2 i h9 (fun c k hc hk => hi c k hc (by simp only [List.mem_cons, List.not_mem_nil, or_false] at hk ⊢; omega))
  have sd3 : ∀ c, c < 40 → A3 (100 + 16 * c + 4) = sdN I ri c := fun c hc => by
    rw [z3 _ (Or.inl (by omega)) (fun c2 k h2 hk => by simp only [List.mem_cons, List.not_mem_nil, or_false] at hk; omega)]; exact sd2 c hc
  have re3 : ∀ c, c < 40 → A3 (100 + 16 * c + 5) = reN I ri c := fun c hc => by
    rw [z3 _ (Or.inl (by omega)) (fun c2 k h2 hk => by simp only [List.mem_cons, List.not_mem_nil, or_false] at hk; omega)]; exact re2 c hc
  have small : ∀ i, i < 20 → i ≠ 9 → A3 i = si 384 i := fun i hi h9 => f3 i h9 (Or.inl (by omega)) (fun c k _ _ => by omega)
  have et : ∀ c, c < 40 → topA (S2 384) c = topS (ri 70) (sdN I ri) (reN I ri) (ri 75) c := fun c hc40 => by
    unfold topA topS
    rw [sd2 c hc40, re2 c hc40, f2 _ (by omega) (fun c2 k h2 hk => by simp only [List.mem_cons, List.not_mem_nil, or_false] at hk; omega), f2 _ (by omega) (fun c2 k h2 hk => by simp only [List.mem_cons, List.not_mem_nil, or_false] at hk; omega), (hld c hc40).2.1, (hld c hc40).2.2.2.2.1]
  have eh : S2 384 (20 + 5 * (tmod (si 384 0)).toNatClampNeg + 1) = ri 230 (tmod (I 320)).toNatClampNeg := by
    rw [← e0, f2 _ (by omega) (fun c2 k h2 hk => by simp only [List.mem_cons, List.not_mem_nil, or_false] at hk; omega)]
    exact hT.2.1.symm
  have el : S2 384 (20 + 5 * (tmod (si 384 0)).toNatClampNeg + 0) = ri 229 (tmod (I 320)).toNatClampNeg := by
    rw [← e0, f2 _ (by omega) (fun c2 k h2 hk => by simp only [List.mem_cons, List.not_mem_nil, or_false] at hk; omega)]
    exact hT.1.symm
  have n65 : (I 65).toNatClampNeg ≤ 40 := by
    have zc := clampE (I 65)
    rw [e2] at zc ⊢
    omega
  have s11 : ∀ c, c < 40 → S2 384 (100 + 16 * c + 11) = si 384 (100 + 16 * c + 11) := fun c hc => f2 _ (by omega) (fun c2 k h2 hk => by simp only [List.mem_cons, List.not_mem_nil, or_false] at hk; omega)
  have s12 : ∀ c, c < 40 → S2 384 (100 + 16 * c + 12) = si 384 (100 + 16 * c + 12) := fun c hc => f2 _ (by omega) (fun c2 k h2 hk => by simp only [List.mem_cons, List.not_mem_nil, or_false] at hk; omega)
  have dr3 : ∀ c, c < 40 → A3 (100 + 16 * c + 12) = (if c < (I 65).toNatClampNeg then (if dryN a0 I ri c = true then 1 else 0) else si 384 (100 + 16 * c + 12)) ∧ A3 (100 + 16 * c + 11) = (if c < (I 65).toNatClampNeg then (if dryN a0 I ri c = true then 0 else si 384 (100 + 16 * c + 11) + 1) else si 384 (100 + 16 * c + 11)) := fun c hc40 => by
    by_cases hc : c < (I 65).toNatClampNeg
    · rw [if_pos hc, if_pos hc]
      have v := v3 c (by rw [S22]; exact hc)
      rw [et c hc40, eh, s11 c hc40] at v
      unfold dryN
      by_cases q : topS (ri 70) (sdN I ri) (reN I ri) (ri 75) c ≤ lvN a0 I ri + ri 230 (tmod (I 320)).toNatClampNeg
      · rw [if_pos q, if_pos q] at v
        rw [if_neg (fun y => (of_decide_eq_true y).2 q), if_neg (fun y => (of_decide_eq_true y).2 q)]
        exact v
      · rw [if_neg q, if_neg q] at v
        rw [if_pos (decide_eq_true ⟨hc, q⟩), if_pos (decide_eq_true ⟨hc, q⟩)]
        exact v
    · rw [if_neg hc, if_neg hc]
      have v := w3 c (by rw [S22]; omega) hc40
      rw [s11 c hc40, s12 c hc40] at v
      exact v
  have rk3 : ∀ c, c < 40 → (rkA A3 (I 320).toNatClampNeg c = true ↔ rockN a0 I ri c = true) := fun c hc40 => by
    rw [e0, k3 c hc40, S22, et c hc40, el]
    unfold rockN
    rw [decide_eq_true_iff, e0]
  have ro3 : ∀ i, 2520 ≤ i → i < 3720 → i ≠ 2520 + 2 * (I 320).toNatClampNeg → i ≠ 2520 + 2 * (I 320).toNatClampNeg + 1 → A3 i = si 384 i := fun i i1 i2 i3 i4 => by
    rw [e0] at i3 i4
    rw [r3 i i1 i2 i3 i4]
    exact f2 i (by omega) (fun c2 k h2 hk => by simp only [List.mem_cons, List.not_mem_nil, or_false] at hk; omega)
  -- drinking, sleep, THE FUND
  have B1 : va_up S2 384 A3 384 1 = si 384 1 := by rw [va_up_self]; exact small 1 (by decide) (by decide)
  have B2 : va_up S2 384 A3 384 2 = si 384 2 := by rw [va_up_self]; exact small 2 (by decide) (by decide)
  have B5 : va_up S2 384 A3 384 5 = si 384 5 := by rw [va_up_self]; exact small 5 (by decide) (by decide)
  obtain ⟨A4, ev4, z4⟩ := drink_q (I := U) (J := V) (ri := va_up S2 384 A3) (rj := sj) (rq := sq) (by rw [B2]; exact c0) (by rw [B2]; exact c4) (by rw [B5]; exact p4)
  rw [va_up_self] at z4
  rw [ev4, up_up]
  simp only
  have cnt : ∀ A : Nat → Int32, zq A3 A → ∀ i, i = 1 ∨ i = 2 ∨ i = 5 ∨ i = 4 → va_up S2 384 A 384 i = si 384 i := fun A hA i hi => by
    rw [va_up_self, hA i (fun c _ => by omega) (fun p k _ _ => by omega)]
    exact small i (by omega) (by omega)
  obtain ⟨A5', ev5, z5⟩ := sleep_q (I := U) (J := V) (ri := va_up S2 384 A4) (rj := sj) (rq := sq) (by rw [cnt A4 z4 1 (Or.inl rfl)]; exact r5) (by rw [cnt A4 z4 2 (Or.inr (Or.inl rfl))]; exact c4) (by rw [cnt A4 z4 5 (Or.inr (Or.inr (Or.inl rfl)))]; exact p4)
  rw [va_up_self] at z5
  rw [ev5, up_up]
  simp only
  have z45 := zq_tr z4 z5
  refine ⟨va_up S2 384 A5', ?_, fun t h1 h2 => (va_up_ne _ _ h1).trans (S2o t h1 h2), fun i h9 hr hc hp => ?_, fun c hc => ?_, fun c hc => ?_, fun i i1 i2 i3 i4 => ?_⟩
  · simp only [bnV, k0]
  · rw [va_up_self, z45 i (fun c h2 => hc c 9 h2 (by decide)) hp]
    exact f3 i h9 hr hc
  · have z : ∀ k, k ∈ [11, 12] → va_up S2 384 A5' 384 (100 + 16 * c + k) = A3 (100 + 16 * c + k) := fun k hk => by
      simp only [List.mem_cons, List.not_mem_nil, or_false] at hk
      rw [va_up_self, z45 _ (fun c2 h2 => by omega) (fun p k2 hp hk2 => by simp only [List.mem_cons, List.not_mem_nil, or_false] at hk2; omega)]
    rw [z 12 (by decide), z 11 (by decide)]
    exact dr3 c hc
  · rw [va_up_self, ← rk3 c hc]
    have zI := clampE (I 320)
    unfold rkA
    rw [z45 _ (fun c2 h2 => by omega) (fun p k2 hp hk2 => by simp only [List.mem_cons, List.not_mem_nil, or_false] at hk2; omega), z45 _ (fun c2 h2 => by omega) (fun p k2 hp hk2 => by simp only [List.mem_cons, List.not_mem_nil, or_false] at hk2; omega)]
  · rw [va_up_self, z45 i (fun c2 h2 => by omega) (fun p k2 hp hk2 => by simp only [List.mem_cons, List.not_mem_nil, or_false] at hk2; omega)]
    exact ro3 i i1 i2 i3 i4
end PU23
/-! ===== pure: a month, both sides: the ROCKS, AREA, DRY, UNDER, THE FUND (behind pu23) ===== -/
section PU24
variable {I : Nat → Int32} {J : Nat → Int64} {ri : Nat → Nat → Int32} {rj : Nat → Nat → Int64} {rq : Nat → Nat → Option Nat}
variable {U : Nat → Int32} {V : Nat → Int64} {si : Nat → Nat → Int32} {sj : Nat → Nat → Int64} {sq : Nat → Nat → Option Nat}
variable {tI : Nat → Nat → Int32} {tR : Nat → Nat → Nat → Int32}
/-- what a month leaves of what AREA and THE FUND hang on -/
def AMR (n : Nat) (a0 : Int32) (I : Nat → Int32) (ri : Nat → Nat → Int32) (si : Nat → Nat → Int32) (U : Nat → Int32) (b c : vM) : Prop := b.1 324 = c.2.2.1 384 18 ∧ c.1 407 = U 407 ∧ ARH (n + 1) b.1 b.2.2.1 b.2.2.2.1 (c.2.2.1 384) ∧ (∀ j, j < 40 → hb (b.2.1 67) j = dryN a0 I ri j) ∧ (∀ j, j < 40 → b.2.2.1 77 j = undN a0 I ri j) ∧ (∀ j, j < 40 → c.2.2.1 384 (100 + 16 * j + 12) = (if j < (I 65).toNatClampNeg then (if dryN a0 I ri j = true then 1 else 0) else si 384 (100 + 16 * j + 12)) ∧ c.2.2.1 384 (100 + 16 * j + 11) = (if j < (I 65).toNatClampNeg then (if dryN a0 I ri j = true then 0 else si 384 (100 + 16 * j + 11) + 1) else si 384 (100 + 16 * j + 11))) ∧ (FUH I ri (si 384) → b.1 321 = c.2.2.1 384 8 ∧ b.1 323 = c.2.2.1 384 12 ∧ (-1 ≤ (c.2.2.1 384 12).toInt) ∧ c.1 410 = (if c.2.2.1 384 8 < 0 then 1 else 0))
set_option maxHeartbeats 1000000 in
theorem goBy_sim {a0 : Int32} {n : Nat} (h : RSL I ri (si 384)) (h6 : (I 320).toInt < 600) (hn : (I 320).toInt = (n : Int)) (hT : TXS I rq tI tR (si 384)) (hF : FCS I ri (si 384)) (h407 : U 407 = 0) (hA : ARH n I ri rj (si 384)) : AMR n a0 I ri si U (g_X10_goBy tI tR a0 I J ri rj rq) (g_X12_month a0 U V si sj sq) := by
  have hc407 : (g_X12_month a0 U V si sj sq).1 407 = U 407 := (g_X12_month_f (a0 := a0) (I := U) (J := V) (ri := si) (rj := sj) (rq := sq)).1 407 (by decide)
  obtain ⟨S, eM, So, Sf, Sd, Sk, Sr⟩ := month_q (U := U) (V := V) (sj := sj) (sq := sq) (a0 := a0) h h6
  obtain ⟨I1, J1, r1, l1, en, n1, n73, n74, nr, nl, nj, nd, ⟨k, nk1, nk2⟩, nu⟩ := nature_w (I := I) (J := J) (ri := ri) (rj := rj) (rq := rq) (a0 := a0) h.1 h6
  obtain ⟨⟨⟨m0, m6⟩, ⟨c0, c4⟩, ⟨l0, l2⟩⟩, ⟨⟨r0, r5⟩, ⟨p0, p4⟩, q4⟩, ⟨e0, e1, e2, e3⟩, _, _, hld, _⟩ := h
  have k6 : (600 : Int32).toInt = 600 := by decide
  have nm : ∀ f : Nat, f ∉ ([] : List Nat) := fun f x => by cases x
  have cn : (I 320).toNatClampNeg = n := at_n hn
  have z65 := clampE (I 65)
  have hn6 : n < 600 := by omega
  obtain ⟨a1, a2, a3, a4⟩ := hA
  have s20 : ∀ i, i < 20 → i ≠ 9 → S 384 i = si 384 i := fun i i1 i2 => Sf i i2 (Or.inl (by omega)) (fun c k _ _ => by omega) (fun p k _ _ => by omega)
  have sCell : ∀ c k, c < 40 → k ∈ [0, 1, 2, 3, 6, 14] → S 384 (100 + 16 * c + k) = si 384 (100 + 16 * c + k) := fun c k hc hk => by
    simp only [List.mem_cons, List.not_mem_nil, or_false] at hk
    exact Sf _ (by omega) (Or.inl (by omega)) (fun c2 k2 _ hk2 => by simp only [List.mem_cons, List.not_mem_nil, or_false] at hk2; omega) (fun p k2 _ hk2 => by simp only [List.mem_cons, List.not_mem_nil, or_false] at hk2; omega)
  have sPer : ∀ p k, p < 40 → k ∈ [0, 1, 2, 3, 4, 7, 8] → S 384 (740 + 12 * p + k) = si 384 (740 + 12 * p + k) := fun p k hp hk => by
    simp only [List.mem_cons, List.not_mem_nil, or_false] at hk
    exact Sf _ (by omega) (Or.inl (by omega)) (fun c2 k2 _ hk2 => by simp only [List.mem_cons, List.not_mem_nil, or_false] at hk2; omega) (fun p2 k2 _ hk2 => by simp only [List.mem_cons, List.not_mem_nil, or_false] at hk2; omega)
  have sTx : ∀ j, zn j ∈ lzt → S 384 j = si 384 j := fun j hj => by
    rcases lz_x hj with q | q
    · rw [q]; exact s20 6 (by decide) (by decide)
    · exact Sf j (by omega) (Or.inr q) (fun c2 k2 _ hk2 => by simp only [List.mem_cons, List.not_mem_nil, or_false] at hk2; omega) (fun p2 k2 _ hk2 => by simp only [List.mem_cons, List.not_mem_nil, or_false] at hk2; omega)
  have sFc : ∀ i, 2220 ≤ i → i < 2340 → S 384 i = si 384 i := fun i i1 i2 => Sf i (by omega) (Or.inl (by omega)) (fun c2 k2 _ hk2 => by simp only [List.mem_cons, List.not_mem_nil, or_false] at hk2; omega) (fun p2 k2 _ hk2 => by simp only [List.mem_cons, List.not_mem_nil, or_false] at hk2; omega)
  have key : ∀ b : vM, b = g_X10_goBy tI tR a0 I J ri rj rq → AMR n a0 I ri si U b (g_X12_month a0 U V si sj sq) := by
    intro b eb
    rw [g_X10_goBy_e] at eb
    simp only [↓ap1_n] at eb
    rw [if_pos (Int32.lt_iff_toInt_lt.mpr (by rw [k6]; exact h6)), en, bnV_mk] at eb
    rw [eb]
    clear eb b
    refine bV_of (P := fun b => AMR n a0 I ri si U b (g_X12_month a0 U V si sj sq)) g_X9_fillUp_f (fun _ _ ra _ _ h1 => ?_)
    refine bV_of (P := fun b => AMR n a0 I ri si U b (g_X12_month a0 U V si sj sq)) g_X2_countBeds_332_f (fun _ _ rb _ _ h2 => ?_)
    refine bI_of (P := fun b => AMR n a0 I ri si U b (g_X12_month a0 U V si sj sq)) g_X0_drink_f (fun _ _ _ rc _ _ h3 => ?_)
    refine bI_of (P := fun b => AMR n a0 I ri si U b (g_X12_month a0 U V si sj sq)) g_X0_sleep_332_f (fun _ _ _ re _ _ h4 => ?_)
    have eR : ∀ t, t ∉ [289, 290, 332, 6, 12, 7] → re t = r1 t := fun t ht => by
      simp only [List.mem_cons, List.not_mem_nil, or_false, not_or] at ht
      have g4 : re t = rc t := h4.2.2.1 t (fun x => by
        have y : t ∈ ([7, 12] : List Nat) := x
        simp only [List.mem_cons, List.not_mem_nil, or_false] at y
        omega)
      have g3 : rc t = rb t := h3.2.2.1 t (fun x => by
        have y : t ∈ ([6, 12, 289] : List Nat) := x
        simp only [List.mem_cons, List.not_mem_nil, or_false] at y
        omega)
      have g2 : rb t = ra t := h2.2.2.1 t (fun x => by
        have y : t ∈ ([332] : List Nat) := x
        simp only [List.mem_cons, List.not_mem_nil, or_false] at y
        omega)
      have g1 : ra t = r1 t := h1.2.2.1 t (fun x => by
        have y : t ∈ ([289, 290] : List Nat) := x
        simp only [List.mem_cons, List.not_mem_nil, or_false] at y
        omega)
      exact ((g4.trans g3).trans g2).trans g1
    have eRi : ∀ t, t ∉ [289, 290, 332, 6, 12, 7, 73, 74, 76, 77, 81] → re t = ri t := fun t ht => by
      simp only [List.mem_cons, List.not_mem_nil, or_false, not_or] at ht
      rw [eR t (by simp only [List.mem_cons, List.not_mem_nil, or_false, not_or]; omega)]
      exact nr t (by simp only [List.mem_cons, List.not_mem_nil, or_false, not_or]; omega)
    have i65 : I1 65 = I 65 := n1 65 (by decide)
    have i320 : I1 320 = si 384 0 := (n1 320 (by decide)).trans e0
    have le68 : l1 68 = vp_updL (rj 68) n k := by rw [nk1, cn]
    have hTe : TXS I1 rq tI tR (S 384) := TXS_cg hT (n1 96 (by decide)) (fun _ _ => rfl) (fun _ _ _ _ => ⟨rfl, fun _ _ => rfl⟩) sTx
    have hFe : FCS I1 re (S 384) := FCS_cg hF (n1 98 (by decide)) (fun t ht j _ => by rw [eRi t ((by decide : ∀ t, t ∈ [99, 100, 101] → t ∉ [289, 290, 332, 6, 12, 7, 73, 74, 76, 77, 81]) t ht)]) (s20 7 (by decide) (by decide)) sFc (by rw [s20 6 (by decide) (by decide)]; exact Int.le_refl _)
    have hAe : ARH (n + 1) I1 re l1 (S 384) := by
      refine ⟨?_, ?_, fun c hc => ?_, fun f hf c hc => ?_⟩
      · rw [n1 237 (by decide), s20 16 (by decide) (by decide)]; exact a1
      · rw [s20 16 (by decide) (by decide)]; exact a2
      · rw [eRi 71 (by decide), eRi 72 (by decide), sCell c 2 hc (by decide), sCell c 3 hc (by decide)]
        exact a3 c hc
      · rw [i65] at hc
        have c40 : c < 40 := by omega
        rw [le68]
        by_cases q : f = n
        · rw [q, vL_s, nk2 c (by omega)]
          have y := Sk c c40
          rw [cn] at y
          by_cases z : rockN a0 I ri c = true
          · rw [z, y.mpr z]
          · have z2 : rockN a0 I ri c = false := by simpa using z
            have z3 : rkA (S 384) n c = false := by
              cases z4 : rkA (S 384) n c with
              | true => exact absurd (y.mp z4) z
              | false => rfl
            rw [z2, z3]
        · rw [vL_n _ _ q, a4 f (by omega) c hc]
          unfold rkA
          rw [Sr _ (by omega) (by omega) (by rw [cn]; omega) (by rw [cn]; omega), Sr _ (by omega) (by omega) (by rw [cn]; omega) (by rw [cn]; omega)]
    obtain ⟨I2, r2, B, U1, x1, x2, x3, x4, x5, x6, x7, x8⟩ := reckon_sim (I := I1) (J := J1) (ri := re) (rj := l1) (rq := rq) (U := U) (V := V) (si := S) (sj := sj) (sq := sq) (m := si 384 0) (n := n) hTe hFe h407 i320 (by rw [← e0]; exact hn) hn6 (by rw [i65, e2, s20 2 (by decide) (by decide)]) (by rw [s20 2 (by decide) (by decide), ← e2]; exact ⟨c0, c4⟩) (by rw [s20 5 (by decide) (by decide)]; exact ⟨p0, p4⟩) hAe
    rw [x1, bnV_mk]
    -- the reference's BOATS
    obtain ⟨U3, S3, L3, y1, y2, y3, y4⟩ := boatsGo_b (I := U1) (J := V) (ri := va_up S 384 B) (rj := sj) (rq := sq) (m := si 384 0) (by rw [va_up_self, x7 5 (by decide) (by decide) (by decide), s20 5 (by decide) (by decide)]; exact p4) (by rw [va_up_self, x7 4 (by decide) (by decide) (by decide), s20 4 (by decide) (by decide)]; exact q4)
    rw [va_up_self] at y4
    have eC : g_X12_month a0 U V si sj sq = (U3, V, va_up S3 384 (upd (S3 384) 0 (si 384 0 + 1)), L3, sq) := by rw [eM, x2, bnV_mk, y1, bnV_mk]
    rw [eC] at hc407 ⊢
    have sB : ∀ i, i ≠ 0 → (∀ p k, p < 40 → k ∈ [3, 7] → i ≠ 740 + 12 * p + k) → va_up S3 384 (upd (S3 384) 0 (si 384 0 + 1)) 384 i = B i := fun i i1 i2 => by
      rw [va_up_self, upd_n _ _ i1]
      exact y4.1 i rfl (fun _ _ => rfl) i2
    have np : ∀ i, (i < 740 ∨ 1220 ≤ i) → ∀ p k, p < 40 → k ∈ [3, 7] → i ≠ 740 + 12 * p + k := fun i hi p k hp hk => by
      simp only [List.mem_cons, List.not_mem_nil, or_false] at hk
      omega
    have sS : ∀ i, i ≠ 0 → i ≠ 8 → i ≠ 12 → i ≠ 18 → (i < 740 ∨ 1220 ≤ i) → va_up S3 384 (upd (S3 384) 0 (si 384 0 + 1)) 384 i = S 384 i := fun i i1 i2 i3 i4 i5 => by
      rw [sB i i1 (np i i5)]
      exact x7 i i2 i3 i4
    -- whatever BOATS of the class do
    have fin : ∀ r3 : Nat → Nat → Int32, r3 71 = r2 71 → r3 72 = r2 72 → r3 77 = r2 77 → AMR n a0 I ri si U (g_X10_goBy_K174 rq J1 l1 I2 r3) (U3, V, va_up S3 384 (upd (S3 384) 0 (si 384 0 + 1)), L3, sq) := fun r3 t71 t72 t77 => by
      rw [g_X10_goBy_K174_e]
      simp only [↓ap1_n]
      have f65 : va_up I2 320 (I2 320 + 1) 65 = I1 65 := (va_up_ne _ _ (by decide)).trans (x3 65 (by decide) (by decide) (by decide))
      refine ⟨?_, hc407, ⟨?_, ?_, fun c hc => ?_, fun f hf c hc => ?_⟩, fun j hj => ?_, fun j hj => ?_, fun j hj => ?_, fun hU => ?_⟩
      · show va_up I2 320 (I2 320 + 1) 324 = va_up S3 384 (upd (S3 384) 0 (si 384 0 + 1)) 384 18
        rw [va_up_ne _ _ (show (324 : Nat) ≠ 320 by decide), sB 18 (by decide) (np 18 (Or.inl (by decide)))]
        exact x5
      · show va_up I2 320 (I2 320 + 1) 237 = va_up S3 384 (upd (S3 384) 0 (si 384 0 + 1)) 384 16
        rw [va_up_ne _ _ (show (237 : Nat) ≠ 320 by decide), x3 237 (by decide) (by decide) (by decide), sS 16 (by decide) (by decide) (by decide) (by decide) (Or.inl (by decide))]
        exact hAe.1
      · show 0 ≤ (va_up S3 384 (upd (S3 384) 0 (si 384 0 + 1)) 384 16).toInt ∧ (va_up S3 384 (upd (S3 384) 0 (si 384 0 + 1)) 384 16).toInt ≤ 20
        rw [sS 16 (by decide) (by decide) (by decide) (by decide) (Or.inl (by decide))]
        exact hAe.2.1
      · show r3 71 c = va_up S3 384 (upd (S3 384) 0 (si 384 0 + 1)) 384 (100 + 16 * c + 2) ∧ r3 72 c = va_up S3 384 (upd (S3 384) 0 (si 384 0 + 1)) 384 (100 + 16 * c + 3) ∧ (0 ≤ (va_up S3 384 (upd (S3 384) 0 (si 384 0 + 1)) 384 (100 + 16 * c + 2)).toInt ∧ (va_up S3 384 (upd (S3 384) 0 (si 384 0 + 1)) 384 (100 + 16 * c + 2)).toInt ≤ 31) ∧ (0 ≤ (va_up S3 384 (upd (S3 384) 0 (si 384 0 + 1)) 384 (100 + 16 * c + 3)).toInt ∧ (va_up S3 384 (upd (S3 384) 0 (si 384 0 + 1)) 384 (100 + 16 * c + 3)).toInt ≤ 31)
        rw [t71, t72, x4 71 (by decide) (by decide), x4 72 (by decide) (by decide), sS _ (by omega) (by omega) (by omega) (by omega) (Or.inl (by omega)), sS _ (by omega) (by omega) (by omega) (by omega) (Or.inl (by omega))]
        exact hAe.2.2.1 c hc
      · have hc2 : c < (I1 65).toNatClampNeg := by
          have hc3 : c < (va_up I2 320 (I2 320 + 1) 65).toNatClampNeg := hc
          rw [f65] at hc3
          exact hc3
        have c40 : c < 40 := by rw [i65] at hc2; omega
        show hb (l1 68 f) c = rkA (va_up S3 384 (upd (S3 384) 0 (si 384 0 + 1)) 384) f c
        rw [hAe.2.2.2 f hf c hc2]
        unfold rkA
        rw [sS _ (by omega) (by omega) (by omega) (by omega) (Or.inr (by omega)), sS _ (by omega) (by omega) (by omega) (by omega) (Or.inr (by omega))]
      · show hb (J1 67) j = _
        exact nd j (by omega)
      · show r3 77 j = _
        rw [t77, x4 77 (by decide) (by decide), eR 77 (by decide)]
        exact nu j
      · show va_up S3 384 (upd (S3 384) 0 (si 384 0 + 1)) 384 (100 + 16 * j + 12) = _ ∧ va_up S3 384 (upd (S3 384) 0 (si 384 0 + 1)) 384 (100 + 16 * j + 11) = _
        rw [sS _ (by omega) (by omega) (by omega) (by omega) (Or.inl (by omega)), sS _ (by omega) (by omega) (by omega) (by omega) (Or.inl (by omega))]
        exact Sd j hj
      · obtain ⟨u0, u1, u2, u3, u4, u5, u6⟩ := hU
        have hUe : FUH I1 re (S 384) := by
          refine ⟨?_, ?_, ?_, ?_, ?_, fun p hp => ?_, fun c hc => ?_⟩
          · rw [n1 0 (by decide), s20 5 (by decide) (by decide)]; exact u0
          · rw [n1 238 (by decide), s20 17 (by decide) (by decide)]; exact u1
          · rw [n1 321 (by decide), s20 8 (by decide) (by decide)]; exact u2
          · rw [n1 323 (by decide), s20 12 (by decide) (by decide)]; exact u3
          · rw [s20 12 (by decide) (by decide)]; exact u4
          · rw [n1 0 (by decide)] at hp
            have zp := clampE (I 0)
            have p40 : p < 40 := by rw [u0] at zp hp; omega
            rw [eRi 5 (by decide), eRi 4 (by decide), sPer p 3 p40 (by decide), sPer p 4 p40 (by decide)]
            exact u5 p hp
          · rw [i65] at hc
            rw [eRi 75 (by decide), sCell c 6 (by omega) (by decide)]
            exact u6 c hc
        obtain ⟨w1, w2, w3, w4⟩ := x8 hUe
        have b8 : va_up S3 384 (upd (S3 384) 0 (si 384 0 + 1)) 384 8 = B 8 := sB 8 (by decide) (np 8 (Or.inl (by decide)))
        have b12 : va_up S3 384 (upd (S3 384) 0 (si 384 0 + 1)) 384 12 = B 12 := sB 12 (by decide) (np 12 (Or.inl (by decide)))
        show va_up I2 320 (I2 320 + 1) 321 = va_up S3 384 (upd (S3 384) 0 (si 384 0 + 1)) 384 8 ∧ va_up I2 320 (I2 320 + 1) 323 = va_up S3 384 (upd (S3 384) 0 (si 384 0 + 1)) 384 12 ∧ (-1 ≤ (va_up S3 384 (upd (S3 384) 0 (si 384 0 + 1)) 384 12).toInt) ∧ U3 410 = (if va_up S3 384 (upd (S3 384) 0 (si 384 0 + 1)) 384 8 < 0 then 1 else 0)
        rw [b8, b12, va_up_ne _ _ (show (321 : Nat) ≠ 320 by decide), va_up_ne _ _ (show (323 : Nat) ≠ 320 by decide)]
        exact ⟨w1, w2, w3, (y2 410 (by decide)).trans w4⟩
    by_cases q : I2 322 ≤ 0
    · rw [if_pos q]
      exact fin r2 rfl rfl rfl
    · rw [if_neg q]
      refine bV_of (P := fun b => AMR n a0 I ri si U b (U3, V, va_up S3 384 (upd (S3 384) 0 (si 384 0 + 1)), L3, sq)) g_X3_line_331_f (fun If Jf rf lf qf h5 => ?_)
      refine bI_of (P := fun b => AMR n a0 I ri si U b (U3, V, va_up S3 384 (upd (S3 384) 0 (si 384 0 + 1)), L3, sq)) g_X0_onRings_f (fun _ Ig Jg rg lg qg h6 => ?_)
      refine bI_of (P := fun b => AMR n a0 I ri si U b (U3, V, va_up S3 384 (upd (S3 384) 0 (si 384 0 + 1)), L3, sq)) g_X3_whoIsSo_f (fun _ Ih Jh rh lh qh h7 => ?_)
      refine bV_of (P := fun b => AMR n a0 I ri si U b (U3, V, va_up S3 384 (upd (S3 384) 0 (si 384 0 + 1)), L3, sq)) g_X0_board_331_f (fun Ik Jk rk lk qk h8 => ?_)
      have t : ∀ t, t ∈ [71, 72, 77] → rk t = r2 t := fun t ht => by
        have g8 : rk t = rh t := h8.2.2.1 t ((by decide : ∀ t, t ∈ [71, 72, 77] → t ∉ w_X0_board_331.2.2.1) t ht)
        have g7 : rh t = rf t := h7.2.2.1 t ((by decide : ∀ t, t ∈ [71, 72, 77] → t ∉ w_X3_whoIsSo.2.2.1) t ht)
        have g5 : rf t = r2 t := h5.2.2.1 t ((by decide : ∀ t, t ∈ [71, 72, 77] → t ∉ w_X3_line_331.2.2.1) t ht)
        exact (g8.trans g7).trans g5
      exact fin rk (t 71 (by decide)) (t 72 (by decide)) (t 77 (by decide))
  exact key _ rfl
end PU24
/-! ===== pure: a month, both sides: PERSONS, LOTS, TITLES (behind pk11 and pu24) ===== -/
section PK12
variable {I : Nat → Int32} {J : Nat → Int64} {ri : Nat → Nat → Int32} {rj : Nat → Nat → Int64} {rq : Nat → Nat → Option Nat}
variable {U : Nat → Int32} {V : Nat → Int64} {si : Nat → Nat → Int32} {sj : Nat → Nat → Int64} {sq : Nat → Nat → Option Nat}
variable {tI : Nat → Nat → Int32} {tR : Nat → Nat → Nat → Int32}
/-- what a month leaves of PERSONS, LOTS, TITLES -/
def FMR (I : Nat → Int32) (ri : Nat → Nat → Int32) (A : Nat → Int32) (b c : vM) : Prop := FLK b.1 b.2.2.1 (c.2.2.1 384) ∧ LTS b.1 b.2.2.1 (c.2.2.1 384) ∧ b.1 322 = c.2.2.1 384 11 ∧ (HLD I ri A → HLD b.1 b.2.2.1 (c.2.2.1 384)) ∧ (∀ i, (i = 6 ∨ i = 7 ∨ i = 16 ∨ i = 17 ∨ (2220 ≤ i ∧ i < 2340) ∨ 3720 ≤ i) → c.2.2.1 384 i = A i) ∧ ∀ p, p < 40 → (c.2.2.1 384 (740 + 12 * p + 3) = 200 ↔ A (740 + 12 * p + 3) = 200)
set_option maxHeartbeats 1000000 in
theorem goBy_F {a0 : Int32} {n : Nat} (h : RSL I ri (si 384)) (h6 : (I 320).toInt < 600) (hn : (I 320).toInt = (n : Int)) (hT : TXS I rq tI tR (si 384)) (hF : FCS I ri (si 384)) (h407 : U 407 = 0) (hA : ARH n I ri rj (si 384)) (hK : FLK I ri (si 384)) (hL : LTS I ri (si 384)) (h322 : I 322 = si 384 11) : FMR I ri (si 384) (g_X10_goBy tI tR a0 I J ri rj rq) (g_X12_month a0 U V si sj sq) := by
  obtain ⟨S, eM, So, Sf, Sd, Sk, Sr⟩ := month_q (U := U) (V := V) (sj := sj) (sq := sq) (a0 := a0) h h6
  obtain ⟨I1, J1, r1, l1, en, n1, n73, n74, nr, nl, nj, nd, ⟨k, nk1, nk2⟩, nu⟩ := nature_w (I := I) (J := J) (ri := ri) (rj := rj) (rq := rq) (a0 := a0) h.1 h6
  obtain ⟨⟨⟨m0, m6⟩, ⟨c0, c4⟩, ⟨l0, l2⟩⟩, ⟨⟨r0, r5⟩, ⟨p0, p4⟩, q4⟩, ⟨e0, e1, e2, e3⟩, _, _, hld, _⟩ := h
  have k6 : (600 : Int32).toInt = 600 := by decide
  have nm : ∀ f : Nat, f ∉ ([] : List Nat) := fun f x => by cases x
  have cn : (I 320).toNatClampNeg = n := at_n hn
  have z65 := clampE (I 65)
  have hn6 : n < 600 := by omega
  obtain ⟨a1, a2, a3, a4⟩ := hA
  have s20 : ∀ i, i < 20 → i ≠ 9 → S 384 i = si 384 i := fun i i1 i2 => Sf i i2 (Or.inl (by omega)) (fun c k _ _ => by omega) (fun p k _ _ => by omega)
  have sCell : ∀ c k, c < 40 → k ∈ [0, 1, 2, 3, 6, 14] → S 384 (100 + 16 * c + k) = si 384 (100 + 16 * c + k) := fun c k hc hk => by
    simp only [List.mem_cons, List.not_mem_nil, or_false] at hk
    exact Sf _ (by omega) (Or.inl (by omega)) (fun c2 k2 _ hk2 => by simp only [List.mem_cons, List.not_mem_nil, or_false] at hk2; omega) (fun p k2 _ hk2 => by simp only [List.mem_cons, List.not_mem_nil, or_false] at hk2; omega)
  have sPer : ∀ p k, p < 40 → k ∈ [0, 1, 2, 3, 4, 7, 8] → S 384 (740 + 12 * p + k) = si 384 (740 + 12 * p + k) := fun p k hp hk => by
    simp only [List.mem_cons, List.not_mem_nil, or_false] at hk
    exact Sf _ (by omega) (Or.inl (by omega)) (fun c2 k2 _ hk2 => by simp only [List.mem_cons, List.not_mem_nil, or_false] at hk2; omega) (fun p2 k2 _ hk2 => by simp only [List.mem_cons, List.not_mem_nil, or_false] at hk2; omega)
  have sTx : ∀ j, zn j ∈ lzt → S 384 j = si 384 j := fun j hj => by
    rcases lz_x hj with q | q
    · rw [q]; exact s20 6 (by decide) (by decide)
    · exact Sf j (by omega) (Or.inr q) (fun c2 k2 _ hk2 => by simp only [List.mem_cons, List.not_mem_nil, or_false] at hk2; omega) (fun p2 k2 _ hk2 => by simp only [List.mem_cons, List.not_mem_nil, or_false] at hk2; omega)
  have sFc : ∀ i, 2220 ≤ i → i < 2340 → S 384 i = si 384 i := fun i i1 i2 => Sf i (by omega) (Or.inl (by omega)) (fun c2 k2 _ hk2 => by simp only [List.mem_cons, List.not_mem_nil, or_false] at hk2; omega) (fun p2 k2 _ hk2 => by simp only [List.mem_cons, List.not_mem_nil, or_false] at hk2; omega)
  have key : ∀ b : vM, b = g_X10_goBy tI tR a0 I J ri rj rq → FMR I ri (si 384) b (g_X12_month a0 U V si sj sq) := by
    intro b eb
    rw [g_X10_goBy_e] at eb
    simp only [↓ap1_n] at eb
    rw [if_pos (Int32.lt_iff_toInt_lt.mpr (by rw [k6]; exact h6)), en, bnV_mk] at eb
    rw [eb]
    clear eb b
    refine bV_of (P := fun b => FMR I ri (si 384) b (g_X12_month a0 U V si sj sq)) g_X9_fillUp_f (fun _ _ ra _ _ h1 => ?_)
    refine bV_of (P := fun b => FMR I ri (si 384) b (g_X12_month a0 U V si sj sq)) g_X2_countBeds_332_f (fun _ _ rb _ _ h2 => ?_)
    refine bI_of (P := fun b => FMR I ri (si 384) b (g_X12_month a0 U V si sj sq)) g_X0_drink_f (fun _ _ _ rc _ _ h3 => ?_)
    refine bI_of (P := fun b => FMR I ri (si 384) b (g_X12_month a0 U V si sj sq)) g_X0_sleep_332_f (fun _ _ _ re _ _ h4 => ?_)
    have eR : ∀ t, t ∉ [289, 290, 332, 6, 12, 7] → re t = r1 t := fun t ht => by
      simp only [List.mem_cons, List.not_mem_nil, or_false, not_or] at ht
      have g4 : re t = rc t := h4.2.2.1 t (fun x => by
        have y : t ∈ ([7, 12] : List Nat) := x
        simp only [List.mem_cons, List.not_mem_nil, or_false] at y
        omega)
      have g3 : rc t = rb t := h3.2.2.1 t (fun x => by
        have y : t ∈ ([6, 12, 289] : List Nat) := x
        simp only [List.mem_cons, List.not_mem_nil, or_false] at y
        omega)
      have g2 : rb t = ra t := h2.2.2.1 t (fun x => by
        have y : t ∈ ([332] : List Nat) := x
        simp only [List.mem_cons, List.not_mem_nil, or_false] at y
        omega)
      have g1 : ra t = r1 t := h1.2.2.1 t (fun x => by
        have y : t ∈ ([289, 290] : List Nat) := x
        simp only [List.mem_cons, List.not_mem_nil, or_false] at y
        omega)
      exact ((g4.trans g3).trans g2).trans g1
    have eRi : ∀ t, t ∉ [289, 290, 332, 6, 12, 7, 73, 74, 76, 77, 81] → re t = ri t := fun t ht => by
      simp only [List.mem_cons, List.not_mem_nil, or_false, not_or] at ht
      rw [eR t (by simp only [List.mem_cons, List.not_mem_nil, or_false, not_or]; omega)]
      exact nr t (by simp only [List.mem_cons, List.not_mem_nil, or_false, not_or]; omega)
    have i65 : I1 65 = I 65 := n1 65 (by decide)
    have i320 : I1 320 = si 384 0 := (n1 320 (by decide)).trans e0
    have le68 : l1 68 = vp_updL (rj 68) n k := by rw [nk1, cn]
    have hTe : TXS I1 rq tI tR (S 384) := TXS_cg hT (n1 96 (by decide)) (fun _ _ => rfl) (fun _ _ _ _ => ⟨rfl, fun _ _ => rfl⟩) sTx
    have hFe : FCS I1 re (S 384) := FCS_cg hF (n1 98 (by decide)) (fun t ht j _ => by rw [eRi t ((by decide : ∀ t, t ∈ [99, 100, 101] → t ∉ [289, 290, 332, 6, 12, 7, 73, 74, 76, 77, 81]) t ht)]) (s20 7 (by decide) (by decide)) sFc (by rw [s20 6 (by decide) (by decide)]; exact Int.le_refl _)
    have hAe : ARH (n + 1) I1 re l1 (S 384) := by
      refine ⟨?_, ?_, fun c hc => ?_, fun f hf c hc => ?_⟩
      · rw [n1 237 (by decide), s20 16 (by decide) (by decide)]; exact a1
      · rw [s20 16 (by decide) (by decide)]; exact a2
      · rw [eRi 71 (by decide), eRi 72 (by decide), sCell c 2 hc (by decide), sCell c 3 hc (by decide)]
        exact a3 c hc
      · rw [i65] at hc
        have c40 : c < 40 := by omega
        rw [le68]
        by_cases q : f = n
        · rw [q, vL_s, nk2 c (by omega)]
          have y := Sk c c40
          rw [cn] at y
          by_cases z : rockN a0 I ri c = true
          · rw [z, y.mpr z]
          · have z2 : rockN a0 I ri c = false := by simpa using z
            have z3 : rkA (S 384) n c = false := by
              cases z4 : rkA (S 384) n c with
              | true => exact absurd (y.mp z4) z
              | false => rfl
            rw [z2, z3]
        · rw [vL_n _ _ q, a4 f (by omega) c hc]
          unfold rkA
          rw [Sr _ (by omega) (by omega) (by rw [cn]; omega) (by rw [cn]; omega), Sr _ (by omega) (by omega) (by rw [cn]; omega) (by rw [cn]; omega)]
    obtain ⟨I2, r2, B, U1, x1, x2, x3, x4, x5, x6, x7, x8⟩ := reckon_sim (I := I1) (J := J1) (ri := re) (rj := l1) (rq := rq) (U := U) (V := V) (si := S) (sj := sj) (sq := sq) (m := si 384 0) (n := n) hTe hFe h407 i320 (by rw [← e0]; exact hn) hn6 (by rw [i65, e2, s20 2 (by decide) (by decide)]) (by rw [s20 2 (by decide) (by decide), ← e2]; exact ⟨c0, c4⟩) (by rw [s20 5 (by decide) (by decide)]; exact ⟨p0, p4⟩) hAe
    rw [x1, bnV_mk]
    have i2 : ∀ f, f ≠ 321 → f ≠ 323 → f ≠ 324 → f ≠ 66 → I2 f = I1 f := fun f h1 h2 h3 _ => x3 f h1 h2 h3
    have e320 : I2 320 = si 384 0 := (x3 320 (by decide) (by decide) (by decide)).trans i320
    have bS : ∀ i, i ≠ 8 → i ≠ 12 → i ≠ 18 → va_up S 384 B 384 i = S 384 i := fun i h1 h2 h3 => by rw [va_up_self]; exact x7 i h1 h2 h3
    have rr : ∀ t, t ∉ [289, 290, 332, 6, 12, 7, 73, 74, 76, 77, 81, 82, 83] → r2 t = ri t := fun t ht => by
      simp only [List.mem_cons, List.not_mem_nil, or_false, not_or] at ht
      rw [x4 t (by omega) (by omega)]
      exact eRi t (by simp only [List.mem_cons, List.not_mem_nil, or_false, not_or]; omega)
    have hT2 : TXS I2 rq tI tR (va_up S 384 B 384) := TXS_cg hTe (x3 96 (by decide) (by decide) (by decide)) (fun _ _ => rfl) (fun _ _ _ _ => ⟨rfl, fun _ _ => rfl⟩) (fun j hj => bS j (lz_8 hj).1 (lz_8 hj).2.1 (lz_8 hj).2.2)
    have hF2 : FCS I2 r2 (va_up S 384 B 384) := FCS_cg hFe (x3 98 (by decide) (by decide) (by decide)) (fun t ht j _ => by rw [x4 t ((by decide : ∀ t, t ∈ [99, 100, 101] → t ≠ 82) t ht) ((by decide : ∀ t, t ∈ [99, 100, 101] → t ≠ 83) t ht)]) (bS 7 (by decide) (by decide) (by decide)) (fun i h1 h2 => bS i (by omega) (by omega) (by omega)) (by rw [bS 6 (by decide) (by decide) (by decide)]; exact Int.le_refl _)
    have hK2 : FLK I2 r2 (va_up S 384 B 384) := FLK_cg hK ((x3 0 (by decide) (by decide) (by decide)).trans (n1 0 (by decide))) (fun t ht p _ => by rw [rr t ((by decide : ∀ t, t ∈ [1, 2, 3, 4, 5, 9] → t ∉ [289, 290, 332, 6, 12, 7, 73, 74, 76, 77, 81, 82, 83]) t ht)]) ((bS 5 (by decide) (by decide) (by decide)).trans (s20 5 (by decide) (by decide))) (fun p k hp hk => by
      rw [bS _ (by omega) (by omega) (by omega)]
      exact sPer p k hp ((by decide : ∀ k, k ∈ [0, 1, 2, 3, 4, 8] → k ∈ [0, 1, 2, 3, 4, 7, 8]) k hk))
    have hL2 : LTS I2 r2 (va_up S 384 B 384) := LTS_cg hL ((x3 10 (by decide) (by decide) (by decide)).trans (n1 10 (by decide))) (fun l _ => by rw [rr 11 (by decide)]) ((bS 4 (by decide) (by decide) (by decide)).trans (s20 4 (by decide) (by decide))) (fun l hl => by
      rw [bS _ (by omega) (by omega) (by omega)]
      exact Sf _ (by omega) (Or.inl (by omega)) (fun c2 k2 _ hk2 => by omega) (fun p2 k2 _ hk2 => by omega))
    have h3222 : I2 322 = va_up S 384 B 384 11 := by
      rw [bS 11 (by decide) (by decide) (by decide), s20 11 (by decide) (by decide), x3 322 (by decide) (by decide) (by decide), n1 322 (by decide)]
      exact h322
    obtain ⟨R', s', U', m', f1, f2, f3, f4, f5, f6⟩ := boats_F (I := I2) (J := J1) (ri := r2) (rj := l1) (rq := rq) (U := U1) (V := V) (si := va_up S 384 B) (sj := sj) (sq := sq) (tI := tI) (tR := tR) (mo := I2 320) (k := g_X10_goBy_K174 rq J1 l1 I2) hT2 hF2 hK2 hL2 h3222 ⟨by rw [e320, ← e0]; omega, by rw [e320, ← e0]; omega⟩ ((x6 407 (by decide)).trans h407)
    rw [e320] at f2
    have eC : g_X12_month a0 U V si sj sq = (U', V, va_up s' 384 (upd (s' 384) 0 (si 384 0 + 1)), m', sq) := by rw [eM, x2, bnV_mk, f2, bnV_mk]
    rw [eC]
    have cell : ∀ i, i ≠ 0 → (∀ q k, q < 40 → k ∈ [3, 7] → i ≠ 740 + 12 * q + k) → va_up s' 384 (upd (s' 384) 0 (si 384 0 + 1)) 384 i = va_up S 384 B 384 i := fun i h1 h2 => by
      rw [va_up_self, upd_n _ _ h1]
      exact f5 i h2
    have np : ∀ i, (i < 740 ∨ 1220 ≤ i) → ∀ p k, p < 40 → k ∈ [3, 7] → i ≠ 740 + 12 * p + k := fun i hi p k hp hk => by
      simp only [List.mem_cons, List.not_mem_nil, or_false] at hk
      omega
    have fin : ∀ b : vM, b = g_X10_goBy_K174 rq J1 l1 I2 R' → FMR I ri (si 384) b (U', V, va_up s' 384 (upd (s' 384) 0 (si 384 0 + 1)), m', sq) := fun b hb => by
      rw [g_X10_goBy_K174_e] at hb
      simp only [↓ap1_n] at hb
      rw [hb]
      refine ⟨FLK_cg f3 (va_up_ne I2 (I2 320 + 1) (show (0 : Nat) ≠ 320 by decide)) (fun _ _ _ _ => rfl) ?_ (fun p k hp hk => ?_), LTS_cg hL2 (va_up_ne I2 (I2 320 + 1) (show (10 : Nat) ≠ 320 by decide)) (fun l _ => ?_) ?_ (fun l hl => ?_), ?_, fun hH => HLD_cg hH ((va_up_ne I2 (I2 320 + 1) (show (65 : Nat) ≠ 320 by decide)).trans ((x3 65 (by decide) (by decide) (by decide)).trans (n1 65 (by decide)))) (fun c _ => ?_) (fun c hc => ?_), fun i hi => ?_, fun p hp => ?_⟩
      · show va_up s' 384 (upd (s' 384) 0 (si 384 0 + 1)) 384 5 = s' 384 5
        rw [va_up_self, upd_n _ _ (by decide)]
      · show va_up s' 384 (upd (s' 384) 0 (si 384 0 + 1)) 384 (740 + 12 * p + k) = s' 384 (740 + 12 * p + k)
        rw [va_up_self, upd_n _ _ (by omega)]
      · show R' 11 l = r2 11 l
        rw [f4 11 (by decide)]
      · exact cell 4 (by decide) (np 4 (Or.inl (by decide)))
      · exact cell (80 + l) (by omega) (np _ (Or.inl (by omega)))
      · show va_up I2 320 (I2 320 + 1) 322 = va_up s' 384 (upd (s' 384) 0 (si 384 0 + 1)) 384 11
        rw [va_up_ne _ _ (show (322 : Nat) ≠ 320 by decide), cell 11 (by decide) (np 11 (Or.inl (by decide)))]
        exact h3222
      · show R' 325 c = ri 325 c
        rw [f4 325 (by decide), rr 325 (by decide)]
      · show va_up s' 384 (upd (s' 384) 0 (si 384 0 + 1)) 384 (100 + 16 * c + 14) = si 384 (100 + 16 * c + 14)
        rw [cell _ (by omega) (np _ (Or.inl (by omega))), bS _ (by omega) (by omega) (by omega)]
        exact sCell c 14 hc (by decide)
      · show va_up s' 384 (upd (s' 384) 0 (si 384 0 + 1)) 384 i = si 384 i
        rw [cell i (by omega) (np i (by omega)), bS i (by omega) (by omega) (by omega)]
        by_cases i20 : i < 20
        · exact s20 i i20 (by omega)
        · exact Sf i (by omega) (by omega) (fun c2 k2 _ hk2 => by simp only [List.mem_cons, List.not_mem_nil, or_false] at hk2; omega) (fun p2 k2 _ hk2 => by simp only [List.mem_cons, List.not_mem_nil, or_false] at hk2; omega)
      · show va_up s' 384 (upd (s' 384) 0 (si 384 0 + 1)) 384 (740 + 12 * p + 3) = 200 ↔ si 384 (740 + 12 * p + 3) = 200
        rw [va_up_self, upd_n _ _ (by omega), f6 p hp, bS _ (by omega) (by omega) (by omega), sPer p 3 hp (by decide)]
    exact fin _ f1
  exact key _ rfl
end PK12
/-! ===== pure: what both sides keep of a country besides SEAS and LAND, through months (behind pk12) ===== -/
section PK13
variable {I : Nat → Int32} {J : Nat → Int64} {ri : Nat → Nat → Int32} {rj : Nat → Nat → Int64} {rq : Nat → Nat → Option Nat}
variable {U : Nat → Int32} {V : Nat → Int64} {si : Nat → Nat → Int32} {sj : Nat → Nat → Int64} {sq : Nat → Nat → Option Nat}
variable {tI : Nat → Nat → Int32} {tR : Nat → Nat → Nat → Int32}
/-- AREA: what the latest month left -/
def ARL (I : Nat → Int32) (A : Nat → Int32) : Prop := (A 0 = 0 → I 324 = -1) ∧ (A 0 ≠ 0 → I 324 = A 18)
/-- THE FUND -/
def FUR (I : Nat → Int32) (A : Nat → Int32) : Prop := I 238 = A 17 ∧ I 321 = A 8 ∧ I 323 = A 12 ∧ -1 ≤ (A 12).toInt
/-- all of it -/
def WRA (I : Nat → Int32) (J : Nat → Int64) (ri : Nat → Nat → Int32) (rj : Nat → Nat → Int64) (A : Nat → Int32) : Prop := (ARH (I 320).toNatClampNeg I ri rj A ∧ ARL I A) ∧ FUR I A ∧ (FLK I ri A ∧ LTS I ri A ∧ HLD I ri A) ∧ DRU I J ri A ∧ I 322 = A 11
theorem FUH_of (h : RSL I ri (si 384)) (hF : FUR I (si 384)) (hK : FLK I ri (si 384)) : FUH I ri (si 384) := by
  obtain ⟨f1, f2, f3, f4⟩ := hF
  obtain ⟨i0, ⟨n0, n40⟩, kp⟩ := hK
  obtain ⟨⟨_, ⟨c0, c4⟩, _⟩, _, _, _, _, hld, _⟩ := h
  have zI := clampE (I 0)
  have z65 := clampE (I 65)
  have i0n : (I 0).toInt = (si 384 5).toInt := congrArg Int32.toInt i0
  refine ⟨i0, f1, f2, f3, f4, fun p hp => ?_, fun c hc => ?_⟩
  · obtain ⟨⟨_, _, _, k4, k5, _⟩, _⟩ := kp p (by omega)
    rw [k4, k5]
    exact ⟨Iff.rfl, rfl⟩
  · exact ((hld c (by omega)).2.2.2.2.1).symm
theorem month_W {a0 : Int32} (h : RSL I ri (si 384)) (h6 : (I 320).toInt < 600) (hT : TXS I rq tI tR (si 384)) (hF : FCS I ri (si 384)) (h407 : U 407 = 0) (hW : WRA I J ri rj (si 384)) (h1 : RSL (g_X10_goBy tI tR a0 I J ri rj rq).1 (g_X10_goBy tI tR a0 I J ri rj rq).2.2.1 ((g_X12_month a0 U V si sj sq).2.2.1 384)) : WRA (g_X10_goBy tI tR a0 I J ri rj rq).1 (g_X10_goBy tI tR a0 I J ri rj rq).2.1 (g_X10_goBy tI tR a0 I J ri rj rq).2.2.1 (g_X10_goBy tI tR a0 I J ri rj rq).2.2.2.1 ((g_X12_month a0 U V si sj sq).2.2.1 384) ∧ TXS (g_X10_goBy tI tR a0 I J ri rj rq).1 rq tI tR ((g_X12_month a0 U V si sj sq).2.2.1 384) ∧ FCS (g_X10_goBy tI tR a0 I J ri rj rq).1 (g_X10_goBy tI tR a0 I J ri rj rq).2.2.1 ((g_X12_month a0 U V si sj sq).2.2.1 384) ∧ (g_X12_month a0 U V si sj sq).1 407 = 0 := by
  obtain ⟨⟨wA, wL⟩, wF, ⟨wK, wS, wH⟩, wD, wB⟩ := hW
  have hn : (I 320).toInt = ((I 320).toNatClampNeg : Int) := by
    have z := clampE (I 320)
    have := h.1.1.1
    omega
  have hU := FUH_of h wF wK
  obtain ⟨a1, a2, a3, a4, a5, a6, a7⟩ := goBy_sim (J := J) (V := V) (sj := sj) (sq := sq) (a0 := a0) h h6 hn hT hF h407 wA
  obtain ⟨b1, b2, b3, b4, b5, _⟩ := goBy_F (J := J) (V := V) (sj := sj) (sq := sq) (a0 := a0) h h6 hn hT hF h407 wA wK wS wB
  have fb := g_X10_goBy_f (tI := tI) (tR := tR) (a0 := a0) (I := I) (J := J) (ri := ri) (rj := rj) (rq := rq)
  have hI : ∀ f, f ∈ [96, 98, 238, 65] → (g_X10_goBy tI tR a0 I J ri rj rq).1 f = I f := fun f hf => fb.1 f ((by decide : ∀ f, f ∈ [96, 98, 238, 65] → f ∉ w_X10_goBy.1) f hf)
  have hR : ∀ t, t ∈ [99, 100, 101] → (g_X10_goBy tI tR a0 I J ri rj rq).2.2.1 t = ri t := fun t ht => fb.2.2.1 t ((by decide : ∀ t, t ∈ [99, 100, 101] → t ∉ w_X10_goBy.2.2.1) t ht)
  have e0 := h.2.2.1.1
  have e0' := h1.2.2.1.1
  have v1 : (g_X10_goBy tI tR a0 I J ri rj rq).1 320 = I 320 + 1 := by
    obtain ⟨I1, J1, r1, l1, e1, f1, f2, _⟩ := goBy_v (I := I) (J := J) (ri := ri) (rj := rj) (rq := rq) (tI := tI) (tR := tR) (a0 := a0) h.1 h6
    rw [e1]
    exact f2
  obtain ⟨u1, u2, u3, u4⟩ := a7 hU
  have c0 : (g_X12_month a0 U V si sj sq).2.2.1 384 0 = si 384 0 + 1 := by rw [← e0', v1, e0]
  have n0 := h.1.1.1
  have c0i : ((g_X12_month a0 U V si sj sq).2.2.1 384 0).toInt = (si 384 0).toInt + 1 := by
    rw [c0]
    rw [e0] at h6 n0
    exact t1_one (by omega) (by omega)
  refine ⟨⟨⟨?_, ?_, ?_⟩, ⟨(hI 238 (by decide)).trans (wF.1.trans (b5 17 (by omega)).symm), u1, u2, u3⟩, ⟨b1, b2, b4 wH⟩, fun c hc => ?_, b3⟩, ?_, ?_, a2.trans h407⟩
  · rw [show ((g_X10_goBy tI tR a0 I J ri rj rq).1 320).toNatClampNeg = (I 320).toNatClampNeg + 1 by
      rw [v1]
      have z := clampE (I 320)
      have z2 := clampE (I 320 + 1)
      have := t1_one (x := I 320) (by omega) (by omega)
      omega]
    exact a3
  · intro z
    exfalso
    rw [z] at c0i
    have k0 : (0 : Int32).toInt = 0 := by decide
    rw [e0] at n0
    omega
  · intro _
    exact a1
  · obtain ⟨d1, d2, ⟨d3, d4⟩, d5⟩ := wD c hc
    obtain ⟨g1, g2⟩ := a6 c hc
    have hb4 := a4 c hc
    have hb5 := a5 c hc
    rw [hb4, hI 65 (by decide), hb5, g1, g2]
    by_cases l : c < (I 65).toNatClampNeg
    · rw [if_pos l, if_pos l]
      have eu : undN a0 I ri c = (if dryN a0 I ri c = true then 0 else ri 77 c + 1) := by
        unfold undN dryN
        rw [if_pos l]
        by_cases t : topS (ri 70) (sdN I ri) (reN I ri) (ri 75) c ≤ lvN a0 I ri + ri 230 (tmod (I 320)).toNatClampNeg
        · rw [if_pos t, if_neg (show ¬ decide (c < (I 65).toNatClampNeg ∧ ¬ topS (ri 70) (sdN I ri) (reN I ri) (ri 75) c ≤ lvN a0 I ri + ri 230 (tmod (I 320)).toNatClampNeg) = true from fun y => (of_decide_eq_true y).2 t)]
        · rw [if_neg t, if_pos (show decide (c < (I 65).toNatClampNeg ∧ ¬ topS (ri 70) (sdN I ri) (reN I ri) (ri 75) c ≤ lvN a0 I ri + ri 230 (tmod (I 320)).toNatClampNeg) = true from decide_eq_true ⟨l, t⟩)]
      rw [eu, d2, c0i]
      rw [e0] at h6
      have hs := t1_one (x := si 384 (100 + 16 * c + 11)) (by omega) (by omega)
      refine ⟨rfl, rfl, ?_, fun y => absurd l (by omega)⟩
      by_cases t : dryN a0 I ri c = true
      · rw [if_pos t]
        have k0 : (0 : Int32).toInt = 0 := by decide
        rw [k0]
        omega
      · rw [if_neg t, hs]
        omega
    · have nd : dryN a0 I ri c = false := by
        unfold dryN
        exact decide_eq_false (fun y => l y.1)
      have nu : undN a0 I ri c = ri 77 c := by
        unfold undN
        rw [if_neg l]
      rw [if_neg l, if_neg l, nd, nu, c0i, d1, d5 (by omega)]
      refine ⟨rfl, d2, by omega, fun _ => rfl⟩
  · exact TXS_cg hT (hI 96 (by decide)) (fun _ _ => rfl) (fun _ _ _ _ => ⟨rfl, fun _ _ => rfl⟩) (fun j hj => b5 j (by rcases lz_x hj with y | y <;> omega))
  · exact FCS_cg hF (hI 98 (by decide)) (fun t ht j _ => by rw [hR t ht]) (b5 7 (by omega)) (fun i h1 h2 => b5 i (by omega)) (by rw [b5 6 (by omega)]; exact Int.le_refl _)
theorem month_R {a0 : Int32} (h : RSL I ri (si 384)) (h6 : (I 320).toInt < 600) : RSL (g_X10_goBy tI tR a0 I J ri rj rq).1 (g_X10_goBy tI tR a0 I J ri rj rq).2.2.1 ((g_X12_month a0 U V si sj sq).2.2.1 384) := by
  obtain ⟨I1, J1, r1, l1, e1, f1, f2, f3, f4, f5⟩ := goBy_v (I := I) (J := J) (ri := ri) (rj := rj) (rq := rq) (tI := tI) (tR := tR) (a0 := a0) h.1 h6
  obtain ⟨U1, s1, m1, e2, o2, z0, z4, z5, z12, zo, zk1⟩ := month_v (U := U) (V := V) (sj := sj) (sq := sq) (a0 := a0) h h6
  rw [e1, e2]
  exact RL_month (a0 := a0) h h6 f1 f2 f3 f4 f5 z0 z4 z5 zo
/-- the whole of both sides' countries, and what they answer by -/
def WLD (tI : Nat → Nat → Int32) (tR : Nat → Nat → Nat → Int32) (I : Nat → Int32) (J : Nat → Int64) (ri : Nat → Nat → Int32) (rj : Nat → Nat → Int64) (rq : Nat → Nat → Option Nat) (U A : Nat → Int32) : Prop := RSL I ri A ∧ TXS I rq tI tR A ∧ FCS I ri A ∧ U 407 = 0 ∧ WRA I J ri rj A
theorem months_W0 {a0 a1 : Int32} (h60 : a0.toInt ≤ 60) : ∀ (n : Nat) (x : Int32) (I : Nat → Int32) (J : Nat → Int64) (ri : Nat → Nat → Int32) (rj : Nat → Nat → Int64) (U : Nat → Int32) (si : Nat → Nat → Int32) (sj : Nat → Nat → Int64), 0 ≤ x.toInt → x.toInt ≤ a0.toInt → (60 - x.toInt).toNat < n → (I 320).toInt + (a0.toInt - x.toInt) ≤ 600 → WLD tI tR I J ri rj rq U (si 384) → ∃ (I1 : Nat → Int32) (J1 : Nat → Int64) (r1 : Nat → Nat → Int32) (l1 : Nat → Nat → Int64) (U1 : Nat → Int32) (s1 : Nat → Nat → Int32) (m1 : Nat → Nat → Int64), g_X11_months_L15 a0 a1 rq tI tR n x I J ri rj = (I1 320, I1, J1, r1, l1, rq) ∧ g_X12_months_L15 a0 a1 V sq n x U si sj = (s1 384 0, U1, V, s1, m1, sq) ∧ WLD tI tR I1 J1 r1 l1 rq U1 (s1 384) := by
  intro n
  induction n with
  | zero => intro x _ _ _ _ _ _ _ _ _ h; exact absurd h (Nat.not_lt_zero _)
  | succ n ih =>
    intro x I J ri rj U si sj h1 h2 h3 h4 h
    rw [g_X11_months_L15_e, g_X12_months_L15_e]
    by_cases d : a0 ≤ x
    · simp only [if_pos d, ↓ap1_n]
      exact ⟨I, J, ri, rj, U, si, sj, rfl, by rw [show (0 : Int32).toNatClampNeg = 0 from by decide], h⟩
    · have d1 := Int32.lt_iff_toInt_lt.mp (Int32.not_le.mp d)
      have e := t1_inc (x := x) (by omega) (by omega)
      simp only [if_neg d, ↓ap1_n]
      obtain ⟨w1, w2, w3, w4, w5⟩ := h
      have n0 := w1.1.1.1
      have wr := month_R (J := J) (rj := rj) (rq := rq) (U := U) (V := V) (sj := sj) (sq := sq) (tI := tI) (tR := tR) (a0 := a1) w1 (by omega)
      obtain ⟨y1, y2, y3, y4⟩ := month_W (J := J) (rj := rj) (V := V) (sj := sj) (sq := sq) (a0 := a1) w1 (by omega) w2 w3 w4 w5 wr
      have fb := g_X10_goBy_f (tI := tI) (tR := tR) (a0 := a1) (I := I) (J := J) (ri := ri) (rj := rj) (rq := rq)
      have fm := g_X12_month_f (a0 := a1) (I := U) (J := V) (ri := si) (rj := sj) (rq := sq)
      have v1 : (g_X10_goBy tI tR a1 I J ri rj rq).1 320 = I 320 + 1 := by
        obtain ⟨I1, J1, r1, l1, e1, f1, f2, _⟩ := goBy_v (I := I) (J := J) (ri := ri) (rj := rj) (rq := rq) (tI := tI) (tR := tR) (a0 := a1) w1.1 (by omega)
        rw [e1]
        exact f2
      have q0 : (I 320 + 1).toInt = (I 320).toInt + 1 := t1_one (by omega) (by omega)
      generalize g_X10_goBy tI tR a1 I J ri rj rq = b at wr y1 y2 y3 fb v1 ⊢
      generalize g_X12_month a1 U V si sj sq = c at wr y1 y2 y3 y4 fm ⊢
      obtain ⟨I1, J1, r1, l1, q1⟩ := b
      obtain ⟨U1, V1, s1, m1, n1⟩ := c
      have eq1 : q1 = rq := funext (fun t => fb.2.2.2.2 t (fun y => by cases (show t ∈ ([] : List Nat) from y)))
      have eV : V1 = V := funext (fun t => fm.2.1 t (fun y => by cases (show t ∈ ([] : List Nat) from y)))
      have en : n1 = sq := funext (fun t => fm.2.2.2.2 t (fun y => by cases (show t ∈ ([] : List Nat) from y)))
      subst eq1 eV en
      rw [bnV_mk, bnV_mk]
      have v1' : I1 320 = I 320 + 1 := v1
      exact ih (x + Int32.ofInt 1) I1 J1 r1 l1 U1 s1 m1 (by omega) (by omega) (by omega) (by rw [v1', q0]; omega) ⟨wr, y2, y3, y4, y1⟩
/-- answer and countries -/
def WLDv (tI : Nat → Nat → Int32) (tR : Nat → Nat → Nat → Int32) (b c : Int32 × vM) : Prop := b.1 = c.1 ∧ WLD tI tR b.2.1 b.2.2.1 b.2.2.2.1 b.2.2.2.2.1 b.2.2.2.2.2 c.2.1 (c.2.2.2.1 384)
theorem months_W {a0 a1 : Int32} (h : WLD tI tR I J ri rj rq U (si 384)) : WLDv tI tR (g_X11_months tI tR a0 a1 I J ri rj rq) (g_X12_months a0 a1 U V si sj sq) := by
  obtain ⟨v, c1, c2, c3⟩ := canTime (a0 := a0) (a1 := a1) (J := J) (rj := rj) (rq := rq) (U := U) (V := V) (sj := sj) (sq := sq) h.1
  rw [g_X11_months_e, g_X12_months_e, c1, c2, bnI_mk, bnI_mk]
  by_cases q : v = 0
  · simp only [if_pos q]
    exact ⟨rfl, h⟩
  · simp only [if_neg q]
    obtain ⟨b1, b2, b3, b4, b5⟩ := c3 q
    have k0 : (0 : Int32).toInt = 0 := by decide
    obtain ⟨I1, J1, r1, l1, U1, s1, m1, d1, d2, d3⟩ := months_W0 (rq := rq) (V := V) (sq := sq) (tI := tI) (tR := tR) (a0 := a0) (a1 := a1) b4 ((60 - (0 : Int32).toInt).toNat + 1) 0 I J ri rj U si sj (by omega) (by omega) (by omega) (by omega) h
    rw [d1, d2]
    exact ⟨d3.1.2.2.1.1, d3⟩
end PK13
