/-! ===== pure: what an EITHER comes to, both sides (behind pe, px2) ===== -/
section PK1
variable {I : Nat → Int32} {J : Nat → Int64} {ri : Nat → Nat → Int32} {rj : Nat → Nat → Int64} {rq : Nat → Nat → Option Nat}
variable {U : Nat → Int32} {V : Nat → Int64} {si : Nat → Nat → Int32} {sj : Nat → Nat → Int64} {sq : Nat → Nat → Option Nat}
variable {tI : Nat → Nat → Int32} {tR : Nat → Nat → Nat → Int32}
/-- the cells of TEXTS -/
theorem lz_x {j : Nat} (h : zn j ∈ lzt) : j = 6 ∨ 3720 ≤ j := by
  have g : zn j = 6 ∨ (900 ≤ zn j ∧ zn j ≤ 931) := (by decide : ∀ z, z ∈ lzt → z = 6 ∨ (900 ≤ z ∧ z ≤ 931)) _ h
  by_cases q : 3720 ≤ j
  · exact Or.inr q
  · refine Or.inl ?_
    by_cases a : j < 20
    · have e : zn j = j := by
        unfold zn
        rw [if_pos a]
      omega
    · exfalso
      by_cases b0 : j < 80
      · have e : zn j = 100 + (j - 20) % 5 := by
          unfold zn
          rw [if_neg a, if_pos b0]
        omega
      by_cases b1 : j < 85
      · have e : zn j = 200 := by
          unfold zn
          rw [if_neg a, if_neg b0, if_pos b1]
        omega
      by_cases b2 : j < 100
      · have e : zn j = 999 := by
          unfold zn
          rw [if_neg a, if_neg b0, if_neg b1, if_pos b2]
        omega
      by_cases b3 : j < 740
      · have e : zn j = 300 + (j - 100) % 16 := by
          unfold zn
          rw [if_neg a, if_neg b0, if_neg b1, if_neg b2, if_pos b3]
        omega
      by_cases b4 : j < 1220
      · have e : zn j = 400 + (j - 740) % 12 := by
          unfold zn
          rw [if_neg a, if_neg b0, if_neg b1, if_neg b2, if_neg b3, if_pos b4]
        omega
      by_cases b5 : j < 2220
      · have e : zn j = 500 + (j - 1220) % 5 := by
          unfold zn
          rw [if_neg a, if_neg b0, if_neg b1, if_neg b2, if_neg b3, if_neg b4, if_pos b5]
        omega
      by_cases b6 : j < 2340
      · have e : zn j = 600 + (j - 2220) % 4 := by
          unfold zn
          rw [if_neg a, if_neg b0, if_neg b1, if_neg b2, if_neg b3, if_neg b4, if_neg b5, if_pos b6]
        omega
      by_cases b7 : j < 2400
      · have e : zn j = 999 := by
          unfold zn
          rw [if_neg a, if_neg b0, if_neg b1, if_neg b2, if_neg b3, if_neg b4, if_neg b5, if_neg b6, if_pos b7]
        omega
      by_cases b8 : j < 2520
      · have e : zn j = 700 + (j - 2400) % 4 := by
          unfold zn
          rw [if_neg a, if_neg b0, if_neg b1, if_neg b2, if_neg b3, if_neg b4, if_neg b5, if_neg b6, if_neg b7, if_pos b8]
        omega
      have e : zn j = 800 + (j - 2520) % 2 := by
        unfold zn
        rw [if_neg a, if_neg b0, if_neg b1, if_neg b2, if_neg b3, if_neg b4, if_neg b5, if_neg b6, if_neg b7, if_neg b8, if_pos (show j < 3720 by omega)]
      omega
/-- values and truths that wait, the latest first -/
abbrev VTs : Type := List (Bool × Int32)
def nbF : VTs → Nat
  | [] => 0
  | x :: P => (if x.1 = true then 0 else 1) + nbF P
def nbT : VTs → Nat
  | [] => 0
  | x :: P => (if x.1 = true then 1 else 0) + nbT P
/-- the class's stack -/
def SKc (f : Nat → Int32) : VTs → Prop
  | [] => True
  | x :: P => f P.length = x.2 ∧ SKc f P
/-- the reference's two -/
def SKm (g : Nat → Int64) (h : Nat → Int32) : VTs → Prop
  | [] => True
  | x :: P => ((x.1 = true → h (nbT P) = x.2 ∧ (x.2 = 0 ∨ x.2 = 1)) ∧ (x.1 = false → g (nbF P) = x.2.toInt64 ∧ vb9 x.2)) ∧ SKm g h P
theorem nbF_t {v : Int32} {P : VTs} : nbF ((true, v) :: P) = nbF P := by
  show (if true = true then 0 else 1) + nbF P = nbF P
  rw [if_pos rfl, Nat.zero_add]
theorem nbF_f {v : Int32} {P : VTs} : nbF ((false, v) :: P) = nbF P + 1 := by
  show (if false = true then 0 else 1) + nbF P = nbF P + 1
  rw [if_neg (by decide), Nat.add_comm]
theorem nbT_t {v : Int32} {P : VTs} : nbT ((true, v) :: P) = nbT P + 1 := by
  show (if true = true then 1 else 0) + nbT P = nbT P + 1
  rw [if_pos rfl, Nat.add_comm]
theorem nbT_f {v : Int32} {P : VTs} : nbT ((false, v) :: P) = nbT P := by
  show (if false = true then 1 else 0) + nbT P = nbT P
  rw [if_neg (by decide), Nat.zero_add]
theorem nb_l : ∀ P : VTs, nbF P ≤ P.length ∧ nbT P ≤ P.length
  | [] => ⟨Nat.le_refl _, Nat.le_refl _⟩
  | (true, v) :: P => by
    have i := nb_l P
    rw [nbF_t, nbT_t]
    show nbF P ≤ P.length + 1 ∧ nbT P + 1 ≤ P.length + 1
    omega
  | (false, v) :: P => by
    have i := nb_l P
    rw [nbF_f, nbT_f]
    show nbF P + 1 ≤ P.length + 1 ∧ nbT P ≤ P.length + 1
    omega
theorem SKc_u {f : Nat → Int32} {v : Int32} {k : Nat} : ∀ P : VTs, SKc f P → P.length ≤ k → SKc (upd f k v) P
  | [], _, _ => trivial
  | x :: P, h, hk => by
    have hl : (x :: P).length = P.length + 1 := rfl
    exact ⟨(upd_n _ _ (by omega)).trans h.1, SKc_u P h.2 (by omega)⟩
theorem SKc_p {f : Nat → Int32} {b : Bool} {v : Int32} {P : VTs} (h : SKc f P) : SKc (upd f P.length v) ((b, v) :: P) := ⟨upd_s _ _ _, SKc_u P h (Nat.le_refl _)⟩
theorem SKm_g {g : Nat → Int64} {h : Nat → Int32} {v : Int64} {k : Nat} : ∀ P : VTs, SKm g h P → nbF P ≤ k → SKm (vp_updL g k v) h P
  | [], _, _ => trivial
  | (true, x) :: P, s, hk => by
    rw [nbF_t] at hk
    exact ⟨⟨s.1.1, fun q => absurd (show true = false from q) (by decide)⟩, SKm_g P s.2 hk⟩
  | (false, x) :: P, s, hk => by
    rw [nbF_f] at hk
    refine ⟨⟨fun q => absurd (show false = true from q) (by decide), fun q => ?_⟩, SKm_g P s.2 (by omega)⟩
    exact ⟨(vL_n _ _ (by omega)).trans (s.1.2 q).1, (s.1.2 q).2⟩
theorem SKm_h {g : Nat → Int64} {h : Nat → Int32} {v : Int32} {k : Nat} : ∀ P : VTs, SKm g h P → nbT P ≤ k → SKm g (upd h k v) P
  | [], _, _ => trivial
  | (false, x) :: P, s, hk => by
    rw [nbT_f] at hk
    exact ⟨⟨fun q => absurd (show false = true from q) (by decide), s.1.2⟩, SKm_h P s.2 hk⟩
  | (true, x) :: P, s, hk => by
    rw [nbT_t] at hk
    refine ⟨⟨fun q => ?_, fun q => absurd (show true = false from q) (by decide)⟩, SKm_h P s.2 (by omega)⟩
    exact ⟨(upd_n _ _ (by omega)).trans (s.1.1 q).1, (s.1.1 q).2⟩
theorem SKm_t {g : Nat → Int64} {h : Nat → Int32} {v : Int32} {P : VTs} (s : SKm g h P) (hv : v = 0 ∨ v = 1) : SKm g (upd h (nbT P) v) ((true, v) :: P) := ⟨⟨fun _ => ⟨upd_s _ _ _, hv⟩, fun q => absurd (show true = false from q) (by decide)⟩, SKm_h P s (Nat.le_refl _)⟩
theorem SKm_f {g : Nat → Int64} {h : Nat → Int32} {v : Int32} {y : Int64} {P : VTs} (s : SKm g h P) (hv : vb9 v) (e : y = v.toInt64) : SKm (vp_updL g (nbF P) y) h ((false, v) :: P) := ⟨⟨fun q => absurd (show false = true from q) (by decide), fun _ => ⟨by rw [vL_s, e], hv⟩⟩, SKm_g P s (Nat.le_refl _)⟩
theorem mp1 {b : Bool} {T : List Bool} : ∀ {P : VTs}, P.map Prod.fst = b :: T → ∃ (v : Int32) (P' : VTs), P = (b, v) :: P' ∧ P'.map Prod.fst = T
  | [], h => by simp at h
  | (b', v) :: P, h => by
    have h1 : b' :: P.map Prod.fst = b :: T := h
    obtain ⟨e1, e2⟩ := List.cons.inj h1
    exact ⟨v, P, by rw [e1], e2⟩
theorem eTr_i {x : Int32} {E : List Int32} {S R : List Bool} (h : eTr (x :: E) S = some R) : ∃ T, eTs x S = some T ∧ eTr E T = some R := by
  have h' : (match eTs x S with | none => none | some R => eTr E R) = some R := h
  cases q : eTs x S with
  | none => rw [q] at h'; exact absurd h' (by simp)
  | some T => rw [q] at h'; exact ⟨T, by first | exact q | rfl, h'⟩
theorem i32_k {x y : Int32} {k : Int} (h : x.toInt = k) (hy : y.toInt = k) : x = y := Int32.toInt_inj.mp (h.trans hy.symm)
theorem eTs_inv {x : Int32} {S R : List Bool} (h : eTs x S = some R) : ((((0 ≤ x.toInt ∧ x.toInt ≤ 9999) ∨ (-17 ≤ x.toInt ∧ x.toInt ≤ -12)) ∧ S.length ≤ 38 ∧ R = false :: S) ∨ (x = -11 ∧ ∃ T, S = true :: T ∧ R = true :: T)) ∨ ((x = -35 ∧ ∃ T, S = false :: T ∧ R = false :: T) ∨ ((x = -9 ∨ x = -10) ∧ ∃ T, S = true :: true :: T ∧ R = true :: T)) ∨ ((-24 ≤ x.toInt ∧ x.toInt ≤ -19) ∧ ∃ T, S = false :: false :: T ∧ R = true :: T) ∨ ((-28 ≤ x.toInt ∧ x.toInt ≤ -25) ∧ ∃ T, S = false :: false :: T ∧ R = false :: T) := by
  unfold eTs at h
  by_cases a : (0 ≤ x.toInt ∧ x.toInt ≤ 9999) ∨ (-17 ≤ x.toInt ∧ x.toInt ≤ -12)
  · rw [if_pos a] at h
    by_cases l : S.length ≤ 38
    · rw [if_pos l] at h
      exact Or.inl (Or.inl ⟨a, l, (Option.some.inj h).symm⟩)
    · rw [if_neg l] at h
      cases h
  · rw [if_neg a] at h
    by_cases b : x.toInt = -11
    · rw [if_pos b] at h
      match S, h with
      | true :: T, h => exact Or.inl (Or.inr ⟨i32_k b (by decide), T, rfl, (Option.some.inj h).symm⟩)
      | false :: T, h => exact absurd h (by simp)
      | [], h => exact absurd h (by simp)
    · rw [if_neg b] at h
      by_cases c : x.toInt = -35
      · rw [if_pos c] at h
        match S, h with
        | false :: T, h => exact Or.inr (Or.inl (Or.inl ⟨i32_k c (by decide), T, rfl, (Option.some.inj h).symm⟩))
        | true :: T, h => exact absurd h (by simp)
        | [], h => exact absurd h (by simp)
      · rw [if_neg c] at h
        by_cases d : x.toInt = -9 ∨ x.toInt = -10
        · rw [if_pos d] at h
          have d2 : x = -9 ∨ x = -10 := by
            rcases d with d | d
            · exact Or.inl (i32_k d (by decide))
            · exact Or.inr (i32_k d (by decide))
          match S, h with
          | true :: true :: T, h => exact Or.inr (Or.inl (Or.inr ⟨d2, T, rfl, (Option.some.inj h).symm⟩))
          | true :: false :: T, h => exact absurd h (by simp)
          | [true], h => exact absurd h (by simp)
          | false :: T, h => exact absurd h (by simp)
          | [], h => exact absurd h (by simp)
        · rw [if_neg d] at h
          by_cases e : -24 ≤ x.toInt ∧ x.toInt ≤ -19
          · rw [if_pos e] at h
            match S, h with
            | false :: false :: T, h => exact Or.inr (Or.inr (Or.inl ⟨e, T, rfl, (Option.some.inj h).symm⟩))
            | false :: true :: T, h => exact absurd h (by simp)
            | [false], h => exact absurd h (by simp)
            | true :: T, h => exact absurd h (by simp)
            | [], h => exact absurd h (by simp)
          · rw [if_neg e] at h
            by_cases g : -28 ≤ x.toInt ∧ x.toInt ≤ -25
            · rw [if_pos g] at h
              match S, h with
              | false :: false :: T, h => exact Or.inr (Or.inr (Or.inr ⟨g, T, rfl, (Option.some.inj h).symm⟩))
              | false :: true :: T, h => exact absurd h (by simp)
              | [false], h => exact absurd h (by simp)
              | true :: T, h => exact absurd h (by simp)
              | [], h => exact absurd h (by simp)
            · rw [if_neg g] at h
              cases h
theorem ngx {x : Int32} (h : -2000000000 ≤ x.toInt ∧ x.toInt ≤ 2000000000) : (-x).toInt = -x.toInt := by
  have e : (0 : Int32) - x = -x := by grind
  have := i_sub (x := (0 : Int32)) (y := x) (show (0 : Int32).toInt = 0 by decide) rfl (by omega) (by omega)
  rw [e] at this
  omega
theorem vb_ng {x : Int32} (h : vb9 x) : vb9 (-x) := by
  have h' : -1000000000 ≤ x.toInt ∧ x.toInt ≤ 1000000000 := h
  show -1000000000 ≤ (-x).toInt ∧ (-x).toInt ≤ 1000000000
  rw [ngx (by omega)]
  omega
theorem ng64 {x : Int32} (h : vb9 x) : -(x.toInt64) = (-x).toInt64 := by
  have h' : -1000000000 ≤ x.toInt ∧ x.toInt ≤ 1000000000 := h
  have e : (0 : Int64) - x.toInt64 = -x.toInt64 := by grind
  have k0 : (0 : Int64).toInt = 0 := by decide
  refine Int64.toInt_inj.mp ?_
  rw [← e, Int64.toInt_sub, t64, t64, k0, ngx (by omega)]
  rw [Int.bmod_eq_of_le (by omega) (by omega)]
  omega
theorem en_nm {x : Int32} (h : -17 ≤ x.toInt ∧ x.toInt ≤ -12) : en x = (1, -12 - x) := by
  have : x = -12 ∨ x = -13 ∨ x = -14 ∨ x = -15 ∨ x = -16 ∨ x = -17 := by
    by_cases a : x.toInt = -12
    · exact Or.inl (i32_k a (by decide))
    by_cases b : x.toInt = -13
    · exact Or.inr (Or.inl (i32_k b (by decide)))
    by_cases c : x.toInt = -14
    · exact Or.inr (Or.inr (Or.inl (i32_k c (by decide))))
    by_cases d : x.toInt = -15
    · exact Or.inr (Or.inr (Or.inr (Or.inl (i32_k d (by decide)))))
    by_cases e : x.toInt = -16
    · exact Or.inr (Or.inr (Or.inr (Or.inr (Or.inl (i32_k e (by decide))))))
    · exact Or.inr (Or.inr (Or.inr (Or.inr (Or.inr (i32_k (show x.toInt = -17 by omega) (by decide))))))
  rcases this with e | e | e | e | e | e <;> subst e <;> decide
theorem en_cmp {x : Int32} (h : -24 ≤ x.toInt ∧ x.toInt ≤ -19) : ∃ c o : Int32, -x = c ∧ en x = (o, 0) ∧ ((10 ≤ o ∧ o < 20 ∧ 17 < c ∧ c ≠ 35) ∧ ((c = 19 ∧ o = 10) ∨ (c = 20 ∧ o = 11) ∨ (c = 21 ∧ o = 12) ∨ (c = 22 ∧ o = 13) ∨ (c = 23 ∧ o = 14) ∨ (c = 24 ∧ o = 15))) := by
  by_cases a : x.toInt = -19
  · have e : x = -19 := i32_k a (by decide)
    subst e
    exact ⟨19, 10, by decide, by decide, by decide, by decide⟩
  by_cases b : x.toInt = -20
  · have e : x = -20 := i32_k b (by decide)
    subst e
    exact ⟨20, 11, by decide, by decide, by decide, by decide⟩
  by_cases c : x.toInt = -21
  · have e : x = -21 := i32_k c (by decide)
    subst e
    exact ⟨21, 12, by decide, by decide, by decide, by decide⟩
  by_cases d : x.toInt = -22
  · have e : x = -22 := i32_k d (by decide)
    subst e
    exact ⟨22, 13, by decide, by decide, by decide, by decide⟩
  by_cases f : x.toInt = -23
  · have e : x = -23 := i32_k f (by decide)
    subst e
    exact ⟨23, 14, by decide, by decide, by decide, by decide⟩
  · have e : x = -24 := i32_k (show x.toInt = -24 by omega) (by decide)
    subst e
    exact ⟨24, 15, by decide, by decide, by decide, by decide⟩
theorem en_ari {x : Int32} (h : -28 ≤ x.toInt ∧ x.toInt ≤ -25) : ∃ c o : Int32, -x = c ∧ en x = (o, 0) ∧ ((2 < o ∧ o < 10 ∧ 17 < c ∧ c ≠ 35) ∧ ((c = 25 ∧ o = 3) ∨ (c = 26 ∧ o = 4) ∨ (c = 27 ∧ o = 5) ∨ (c = 28 ∧ o = 6))) := by
  by_cases a : x.toInt = -25
  · have e : x = -25 := i32_k a (by decide)
    subst e
    exact ⟨25, 3, by decide, by decide, by decide, by decide⟩
  by_cases b : x.toInt = -26
  · have e : x = -26 := i32_k b (by decide)
    subst e
    exact ⟨26, 4, by decide, by decide, by decide, by decide⟩
  by_cases c : x.toInt = -27
  · have e : x = -27 := i32_k c (by decide)
    subst e
    exact ⟨27, 5, by decide, by decide, by decide, by decide⟩
  · have e : x = -28 := i32_k (show x.toInt = -28 by omega) (by decide)
    subst e
    exact ⟨28, 6, by decide, by decide, by decide, by decide⟩
theorem jn_or {a b : Int32} (ha : a = 0 ∨ a = 1) (hb : b = 0 ∨ b = 1) : g_X8_join 9 a b = (if a = 0 then (if b = 0 then 0 else 1) else 1) := by
  rcases ha with e | e <;> rcases hb with e2 | e2 <;> subst e e2 <;> decide
theorem jn_and {a b : Int32} (ha : a = 0 ∨ a = 1) (hb : b = 0 ∨ b = 1) : g_X8_join 10 a b = (if a = 0 then 0 else (if b = 0 then 0 else 1)) := by
  rcases ha with e | e <;> rcases hb with e2 | e2 <;> subst e e2 <;> decide
theorem dn1 {x : Int32} {k : Nat} (h : x.toInt = ((k + 1 + 1 : Nat) : Int)) (hk : k ≤ 39) : (x + Int32.ofInt (-1)).toInt = ((k + 1 : Nat) : Int) ∧ (x + Int32.ofInt (-1) - 1).toInt = (k : Int) := by
  have e : (x + Int32.ofInt (-1)).toInt = ((k + 1 : Nat) : Int) := (dn_i (by omega) (by omega)).trans (by omega)
  exact ⟨e, (i_sub e (show (1 : Int32).toInt = 1 by decide) (by omega) (by omega)).trans (by omega)⟩
theorem dn2 {x : Int32} {k : Nat} (h : x.toInt = ((k + 1 + 1 : Nat) : Int)) (hk : k ≤ 39) : (x + Int32.ofInt (-2)).toInt = (k : Int) := (i_add h (show (Int32.ofInt (-2)).toInt = -2 by decide) (by omega) (by omega)).trans (by omega)
theorem tk_j {c : Int32} (h : 17 < c) (h2 : c ≠ 35) : (1 ≤ c.toInt ∧ c.toInt ≤ 10) ∨ (17 < c.toInt ∧ c.toInt ≠ 35) := by
  have k17 : (17 : Int32).toInt = 17 := by decide
  have h' := Int32.lt_iff_toInt_lt.mp h
  exact Or.inr ⟨by omega, fun q => h2 (i32_k q (by decide))⟩
theorem wc_push {w c k n : Nat} {a0 x1 x2 x : Int32} {f : Nat → Int32} (hq : ¬ tR 258 w (a0 + 1).toNatClampNeg ≤ x2) (hx2 : x2.toInt = (c : Int)) (hc : tR 259 w c = x) (h0 : 0 ≤ x.toInt ∧ x.toInt ≤ 9999) (hx1 : (x1 + Int32.ofInt 1).toInt = (k : Int)) (hk : k ≤ 39) : g_X8_work_102_103_L11 w a0 I J rj rq tR (n + 1) x1 x2 (va_up ri 103 f) = g_X8_work_102_103_L11 w a0 I J rj rq tR n (x1 + Int32.ofInt 1) (x2 + Int32.ofInt 1) (va_up ri 103 (upd f k x)) := by
  have k0 : (0 : Int32).toInt = 0 := by decide
  have k12 : (12 : Int32).toInt = 12 := by decide
  have k17 : (17 : Int32).toInt = 17 := by decide
  have k40 : (40 : Int32).toInt = 40 := by decide
  have r102 : va_up ri 103 f 102 = ri 102 := va_up_ne _ _ (by decide)
  rw [g_X8_work_102_103_L11_e]
  simp only [↓ap1_n, va_up_self, r102]
  rw [if_neg hq, at_n hx2, hc]
  have nxv := ngx (x := x) (by omega)
  rw [if_pos (show -x ≤ 0 from Int32.le_iff_toInt_le.mpr (by rw [nxv, k0]; omega)), if_pos (show x1 + Int32.ofInt 1 < 40 from Int32.lt_iff_toInt_lt.mpr (by rw [hx1, k40]; omega))]
  simp only [g_X8_work_102_103_K90, g_X8_work_102_103_K172, ↓ap1_n, va_up_self, up_up]
  rw [at_n hx1]
theorem wc_name {w c k n : Nat} {a0 x1 x2 x : Int32} {f : Nat → Int32} (hq : ¬ tR 258 w (a0 + 1).toNatClampNeg ≤ x2) (hx2 : x2.toInt = (c : Int)) (hc : tR 259 w c = x) (h0 : -17 ≤ x.toInt ∧ x.toInt ≤ -12) (hx1 : (x1 + Int32.ofInt 1).toInt = (k : Int)) (hk : k ≤ 39) {j : Nat} (hj : -x.toInt - 12 = (j : Int)) {v : Int32} (hv : ri 102 j = v) : g_X8_work_102_103_L11 w a0 I J rj rq tR (n + 1) x1 x2 (va_up ri 103 f) = g_X8_work_102_103_L11 w a0 I J rj rq tR n (x1 + Int32.ofInt 1) (x2 + Int32.ofInt 1) (va_up ri 103 (upd f k v)) := by
  have k0 : (0 : Int32).toInt = 0 := by decide
  have k12 : (12 : Int32).toInt = 12 := by decide
  have k17 : (17 : Int32).toInt = 17 := by decide
  have k40 : (40 : Int32).toInt = 40 := by decide
  have r102 : va_up ri 103 f 102 = ri 102 := va_up_ne _ _ (by decide)
  rw [g_X8_work_102_103_L11_e]
  simp only [↓ap1_n, va_up_self, r102]
  rw [if_neg hq, at_n hx2, hc]
  obtain ⟨z, ez, hz⟩ : ∃ z : Int32, -x = z ∧ z.toInt = -x.toInt := ⟨_, rfl, ngx (by omega)⟩
  have n1 : ¬ z ≤ 0 := fun q => by
    have := Int32.le_iff_toInt_le.mp q
    omega
  have n2 : ¬ z < 12 := fun q => by
    have := Int32.lt_iff_toInt_lt.mp q
    omega
  have n3 : ¬ 17 < z := fun q => by
    have := Int32.lt_iff_toInt_lt.mp q
    omega
  have j1 : (z - 12).toNatClampNeg = j := at_n ((i_sub hz k12 (by omega) (by omega)).trans hj)
  rw [ez, if_neg n1, if_neg n2, if_neg n3, if_pos (show x1 + Int32.ofInt 1 < 40 from Int32.lt_iff_toInt_lt.mpr (by rw [hx1, k40]; omega)), j1, hv]
  simp only [g_X8_work_102_103_K90_2, g_X8_work_102_103_K172, ↓ap1_n, va_up_self, up_up]
  rw [at_n hx1]
theorem wc_not {w c k n : Nat} {a0 x1 x2 x : Int32} {f : Nat → Int32} (hq : ¬ tR 258 w (a0 + 1).toNatClampNeg ≤ x2) (hx2 : x2.toInt = (c : Int)) (hc : tR 259 w c = x) (h0 : -x = 11) (hx1 : x1.toInt = (k : Int)) : g_X8_work_102_103_L11 w a0 I J rj rq tR (n + 1) x1 x2 (va_up ri 103 f) = g_X8_work_102_103_L11 w a0 I J rj rq tR n x1 (x2 + Int32.ofInt 1) (va_up ri 103 (upd f k (1 - f k))) := by
  have k0 : (0 : Int32).toInt = 0 := by decide
  have k12 : (12 : Int32).toInt = 12 := by decide
  have k17 : (17 : Int32).toInt = 17 := by decide
  have k40 : (40 : Int32).toInt = 40 := by decide
  have r102 : va_up ri 103 f 102 = ri 102 := va_up_ne _ _ (by decide)
  rw [g_X8_work_102_103_L11_e]
  simp only [↓ap1_n, va_up_self, r102]
  rw [if_neg hq, at_n hx2, hc]
  rw [h0, if_neg (show ¬ (11 : Int32) ≤ 0 by decide), if_pos (show (11 : Int32) < 12 by decide), g_X8_work_102_103_K94_e, if_pos (show (11 : Int32) = 11 from rfl), g_X8_work_102_103_K108_e, if_pos (show 0 ≤ x1 from Int32.le_iff_toInt_le.mpr (by rw [k0]; omega)), if_pos (show (11 : Int32) = 11 from rfl)]
  simp only [g_X8_work_102_103_K139, g_X8_work_102_103_K172, ↓ap1_n, va_up_self, up_up]
  rw [at_n hx1]
theorem wc_neg {w c k n : Nat} {a0 x1 x2 x : Int32} {f : Nat → Int32} (hq : ¬ tR 258 w (a0 + 1).toNatClampNeg ≤ x2) (hx2 : x2.toInt = (c : Int)) (hc : tR 259 w c = x) (h0 : -x = 35) (hx1 : x1.toInt = (k : Int)) : g_X8_work_102_103_L11 w a0 I J rj rq tR (n + 1) x1 x2 (va_up ri 103 f) = g_X8_work_102_103_L11 w a0 I J rj rq tR n x1 (x2 + Int32.ofInt 1) (va_up ri 103 (upd f k (-f k))) := by
  have k0 : (0 : Int32).toInt = 0 := by decide
  have k12 : (12 : Int32).toInt = 12 := by decide
  have k17 : (17 : Int32).toInt = 17 := by decide
  have k40 : (40 : Int32).toInt = 40 := by decide
  have r102 : va_up ri 103 f 102 = ri 102 := va_up_ne _ _ (by decide)
  rw [g_X8_work_102_103_L11_e]
  simp only [↓ap1_n, va_up_self, r102]
  rw [if_neg hq, at_n hx2, hc]
  rw [h0, if_neg (show ¬ (35 : Int32) ≤ 0 by decide), if_neg (show ¬ (35 : Int32) < 12 by decide), if_pos (show (17 : Int32) < 35 by decide), g_X8_work_102_103_K94_e, if_neg (show ¬ (35 : Int32) = 11 by decide), if_pos (show (35 : Int32) = 35 from rfl), g_X8_work_102_103_K108_e, if_pos (show 0 ≤ x1 from Int32.le_iff_toInt_le.mpr (by rw [k0]; omega)), if_neg (show ¬ (35 : Int32) = 11 by decide)]
  simp only [g_X8_work_102_103_K139, g_X8_work_102_103_K172, ↓ap1_n, va_up_self, up_up]
  rw [at_n hx1]
theorem wc_join {w c k n : Nat} {a0 x1 x2 x cc x4 : Int32} {f : Nat → Int32} (hq : ¬ tR 258 w (a0 + 1).toNatClampNeg ≤ x2) (hx2 : x2.toInt = (c : Int)) (hc : tR 259 w c = x) (h0 : -x = cc) (hcc : (1 ≤ cc.toInt ∧ cc.toInt ≤ 10) ∨ (17 < cc.toInt ∧ cc.toInt ≠ 35)) (e4 : x1 + Int32.ofInt (-1) = x4) (h4 : x4.toInt = (k : Int)) (hk : k ≤ 39) : g_X8_work_102_103_L11 w a0 I J rj rq tR (n + 1) x1 x2 (va_up ri 103 f) = g_X8_work_102_103_L11 w a0 I J rj rq tR n x4 (x2 + Int32.ofInt 1) (va_up ri 103 (upd f k (g_X8_join cc (f k) (f (k + 1))))) := by
  have k0 : (0 : Int32).toInt = 0 := by decide
  have k12 : (12 : Int32).toInt = 12 := by decide
  have k17 : (17 : Int32).toInt = 17 := by decide
  have k40 : (40 : Int32).toInt = 40 := by decide
  have r102 : va_up ri 103 f 102 = ri 102 := va_up_ne _ _ (by decide)
  rw [g_X8_work_102_103_L11_e]
  simp only [↓ap1_n, va_up_self, r102]
  rw [if_neg hq, at_n hx2, hc]
  have n1 : ¬ cc ≤ 0 := fun q => by
    have := Int32.le_iff_toInt_le.mp q
    omega
  have n11 : ¬ cc = 11 := fun q => by
    have k11 : (11 : Int32).toInt = 11 := by decide
    rw [q] at hcc
    omega
  have n35 : ¬ cc = 35 := fun q => by
    have k35 : (35 : Int32).toInt = 35 := by decide
    rw [q] at hcc
    omega
  have fin : g_X8_work_102_103_K94 I J rj rq x1 x2 (va_up ri 103 f) (g_X8_work_102_103_L11 w a0 I J rj rq tR n) cc = g_X8_work_102_103_L11 w a0 I J rj rq tR n x4 (x2 + Int32.ofInt 1) (va_up ri 103 (upd f k (g_X8_join cc (f k) (f (k + 1))))) := by
    rw [g_X8_work_102_103_K94_e, if_neg n11, if_neg n35]
    simp only [g_X8_work_102_103_K172, ↓ap1_n, va_up_self, up_up, e4]
    rw [if_pos (show 0 ≤ x4 from Int32.le_iff_toInt_le.mpr (by rw [k0]; omega)), at_n h4, at_n (upN h4 (by omega))]
  rw [h0, if_neg n1]
  by_cases c12 : cc < 12
  · rw [if_pos c12]
    exact fin
  · have c12' : ¬ cc.toInt < 12 := fun q => c12 (Int32.lt_iff_toInt_lt.mpr (by rw [k12]; exact q))
    rw [if_neg c12, if_pos (show 17 < cc from Int32.lt_iff_toInt_lt.mpr (by rw [k17]; omega))]
    exact fin
theorem so_ps {t d : Nat} {t0 y3 : Int32} (ht : t0.toInt = (t : Int)) (h9 : t ≤ 10) (hy3 : y3.toInt = (d : Int)) (hd : d ≤ 300) : (3720 + 900 * t0 + 250 + 2 * y3).toNatClampNeg = 3720 + 900 * t + 250 + 2 * d ∧ (3720 + 900 * t0 + 250 + 2 * y3 + 1).toNatClampNeg = 3720 + 900 * t + 250 + 2 * d + 1 := by
  have m1 := i_mul (show (900 : Int32).toInt = 900 by decide) ht (by omega) (by omega)
  have m2 := i_add (show (3720 : Int32).toInt = 3720 by decide) m1 (by omega) (by omega)
  have m3 := i_add m2 (show (250 : Int32).toInt = 250 by decide) (by omega) (by omega)
  have m4 := i_mul (show (2 : Int32).toInt = 2 by decide) hy3 (by omega) (by omega)
  have m5 := i_add m3 m4 (by omega) (by omega)
  have m6 := i_add m5 (show (1 : Int32).toInt = 1 by decide) (by omega) (by omega)
  exact ⟨at_n (m5.trans (by omega)), at_n (m6.trans (by omega))⟩
theorem ws_val {t d k m : Nat} {t0 a1 a2 a3 a4 y1 y2 y3 v : Int32} {h : Nat → Int32} {g : Nat → Int64} (ht : t0.toInt = (t : Int)) (h9 : t ≤ 10) (hy3 : y3.toInt = (d : Int)) (hd : d ≤ 300) (hq : ¬ si 384 (a1 + 3).toNatClampNeg ≤ y3) (ho : si 384 (3720 + 900 * t + 250 + 2 * d) = 0) (hv : si 384 (3720 + 900 * t + 250 + 2 * d + 1) = v) (h1 : y1.toInt = (k : Int)) : g_X12_isSo_L16 t0 a1 a2 a3 a4 U V sq (m + 1) y1 y2 y3 (va_up si 405 h) (va_up sj 404 g) = g_X12_isSo_L16 t0 a1 a2 a3 a4 U V sq m (y1 + Int32.ofInt 1) y2 (y3 + Int32.ofInt 1) (va_up si 405 h) (va_up sj 404 (vp_updL g k v.toInt64)) := by
  have k0 : (0 : Int32).toInt = 0 := by decide
  have k1 : (1 : Int32).toInt = 1 := by decide
  have s384 : va_up si 405 h 384 = si 384 := va_up_ne _ _ (by decide)
  obtain ⟨p1, p2⟩ := so_ps ht h9 hy3 hd
  rw [g_X12_isSo_L16_e]
  simp only [↓ap1_n, va_up_self, s384, p1, p2]
  rw [if_neg hq, ho, hv]
  rw [if_neg (show ¬ (1 : Int32) < 0 by decide), if_pos (show (0 : Int32) = 0 from rfl)]
  simp only [g_X12_isSo_K116, ↓ap1_n, va_up_self, up_up]
  rw [at_n h1]
theorem ws_nam {t d k m : Nat} {t0 a1 a2 a3 a4 y1 y2 y3 v : Int32} {h : Nat → Int32} {g : Nat → Int64} (ht : t0.toInt = (t : Int)) (h9 : t ≤ 10) (hy3 : y3.toInt = (d : Int)) (hd : d ≤ 300) (hq : ¬ si 384 (a1 + 3).toNatClampNeg ≤ y3) (ho : si 384 (3720 + 900 * t + 250 + 2 * d) = 1) (hv : si 384 (3720 + 900 * t + 250 + 2 * d + 1) = v) (h1 : y1.toInt = (k : Int)) {u : Int32} (hn : g_X12_named a2 v a3 a4 U V (va_up si 405 h) (va_up sj 404 g) sq = (u, U, V, va_up si 405 h, va_up sj 404 g, sq)) : g_X12_isSo_L16 t0 a1 a2 a3 a4 U V sq (m + 1) y1 y2 y3 (va_up si 405 h) (va_up sj 404 g) = g_X12_isSo_L16 t0 a1 a2 a3 a4 U V sq m (y1 + Int32.ofInt 1) y2 (y3 + Int32.ofInt 1) (va_up si 405 h) (va_up sj 404 (vp_updL g k u.toInt64)) := by
  have k0 : (0 : Int32).toInt = 0 := by decide
  have k1 : (1 : Int32).toInt = 1 := by decide
  have s384 : va_up si 405 h 384 = si 384 := va_up_ne _ _ (by decide)
  obtain ⟨p1, p2⟩ := so_ps ht h9 hy3 hd
  rw [g_X12_isSo_L16_e]
  simp only [↓ap1_n, va_up_self, s384, p1, p2]
  rw [if_neg hq, ho, hv]
  rw [if_neg (show ¬ (1 : Int32) < 1 by decide), if_neg (show ¬ (1 : Int32) = 0 by decide), bn_n hn]
  simp only [g_X12_isSo_K116, ↓ap1_n, va_up_self, up_up]
  rw [at_n h1]
theorem ws_neg {t d k m : Nat} {t0 a1 a2 a3 a4 y1 y2 y3 : Int32} {h : Nat → Int32} {g : Nat → Int64} (ht : t0.toInt = (t : Int)) (h9 : t ≤ 10) (hy3 : y3.toInt = (d : Int)) (hd : d ≤ 300) (hq : ¬ si 384 (a1 + 3).toNatClampNeg ≤ y3) (ho : si 384 (3720 + 900 * t + 250 + 2 * d) = 2) (h1 : (y1 - 1).toInt = (k : Int)) : g_X12_isSo_L16 t0 a1 a2 a3 a4 U V sq (m + 1) y1 y2 y3 (va_up si 405 h) (va_up sj 404 g) = g_X12_isSo_L16 t0 a1 a2 a3 a4 U V sq m y1 y2 (y3 + Int32.ofInt 1) (va_up si 405 h) (va_up sj 404 (vp_updL g k (-g k))) := by
  have k0 : (0 : Int32).toInt = 0 := by decide
  have k1 : (1 : Int32).toInt = 1 := by decide
  have s384 : va_up si 405 h 384 = si 384 := va_up_ne _ _ (by decide)
  obtain ⟨p1, p2⟩ := so_ps ht h9 hy3 hd
  rw [g_X12_isSo_L16_e]
  simp only [↓ap1_n, va_up_self, s384, p1, p2]
  rw [if_neg hq, ho]
  rw [if_pos (show (1 : Int32) < 2 by decide), if_pos (show (2 : Int32) = 2 from rfl), at_n h1, up_up]
theorem ws_not {t d k m : Nat} {t0 a1 a2 a3 a4 y1 y2 y3 : Int32} {h : Nat → Int32} {g : Nat → Int64} (ht : t0.toInt = (t : Int)) (h9 : t ≤ 10) (hy3 : y3.toInt = (d : Int)) (hd : d ≤ 300) (hq : ¬ si 384 (a1 + 3).toNatClampNeg ≤ y3) (ho : si 384 (3720 + 900 * t + 250 + 2 * d) = 20) (h1 : (y2 - 1).toInt = (k : Int)) : g_X12_isSo_L16 t0 a1 a2 a3 a4 U V sq (m + 1) y1 y2 y3 (va_up si 405 h) (va_up sj 404 g) = g_X12_isSo_L16 t0 a1 a2 a3 a4 U V sq m y1 y2 (y3 + Int32.ofInt 1) (va_up si 405 (upd h k (if h k = 0 then 1 else 0))) (va_up sj 404 g) := by
  have k0 : (0 : Int32).toInt = 0 := by decide
  have k1 : (1 : Int32).toInt = 1 := by decide
  have s384 : va_up si 405 h 384 = si 384 := va_up_ne _ _ (by decide)
  obtain ⟨p1, p2⟩ := so_ps ht h9 hy3 hd
  rw [g_X12_isSo_L16_e]
  simp only [↓ap1_n, va_up_self, s384, p1, p2]
  rw [if_neg hq, ho]
  rw [if_pos (show (1 : Int32) < 20 by decide), if_neg (show ¬ (20 : Int32) = 2 by decide), if_pos (show (10 : Int32) ≤ 20 by decide), if_pos (show (20 : Int32) ≤ 20 by decide), if_pos (show (20 : Int32) = 20 from rfl)]
  simp only [g_X12_isSo_K270, g_X12_isSo_K270_2, ↓ap1_n, va_up_self, up_up]
  rw [at_n h1]
  by_cases c : h k = 0
  · rw [if_pos c, if_pos c]
  · rw [if_neg c, if_neg c]
theorem ws_or {t d k m : Nat} {t0 a1 a2 a3 a4 y1 y2 y3 v : Int32} {h : Nat → Int32} {g : Nat → Int64} (ht : t0.toInt = (t : Int)) (h9 : t ≤ 10) (hy3 : y3.toInt = (d : Int)) (hd : d ≤ 300) (hq : ¬ si 384 (a1 + 3).toNatClampNeg ≤ y3) (ho : si 384 (3720 + 900 * t + 250 + 2 * d) = 22) (f4 : y2 + Int32.ofInt (-1) = v) (g4 : v.toInt = ((k + 1 : Nat) : Int)) (g5 : (v - 1).toInt = (k : Int)) : g_X12_isSo_L16 t0 a1 a2 a3 a4 U V sq (m + 1) y1 y2 y3 (va_up si 405 h) (va_up sj 404 g) = g_X12_isSo_L16 t0 a1 a2 a3 a4 U V sq m y1 v (y3 + Int32.ofInt 1) (va_up si 405 (upd h k (if h k = 0 then (if h (k + 1) = 0 then 0 else 1) else 1))) (va_up sj 404 g) := by
  have k0 : (0 : Int32).toInt = 0 := by decide
  have k1 : (1 : Int32).toInt = 1 := by decide
  have s384 : va_up si 405 h 384 = si 384 := va_up_ne _ _ (by decide)
  obtain ⟨p1, p2⟩ := so_ps ht h9 hy3 hd
  rw [g_X12_isSo_L16_e]
  simp only [↓ap1_n, va_up_self, s384, p1, p2]
  rw [if_neg hq, ho]
  rw [if_pos (show (1 : Int32) < 22 by decide), if_neg (show ¬ (22 : Int32) = 2 by decide), if_pos (show (10 : Int32) ≤ 22 by decide), if_pos (show (20 : Int32) ≤ 22 by decide), if_neg (show ¬ (22 : Int32) = 20 by decide), if_neg (show ¬ (22 : Int32) = 21 by decide)]
  simp only [g_X12_isSo_K349, g_X12_isSo_K349_2, g_X12_isSo_K344, ↓ap1_n, va_up_self, up_up, f4]
  rw [at_n g5, at_n g4]
  by_cases c : h k = 0
  · rw [if_pos c, if_pos c]
    by_cases c2 : h (k + 1) = 0
    · rw [if_pos c2, if_pos c2]
    · rw [if_neg c2, if_neg c2]
  · rw [if_neg c, if_neg c]
theorem ws_and {t d k m : Nat} {t0 a1 a2 a3 a4 y1 y2 y3 v : Int32} {h : Nat → Int32} {g : Nat → Int64} (ht : t0.toInt = (t : Int)) (h9 : t ≤ 10) (hy3 : y3.toInt = (d : Int)) (hd : d ≤ 300) (hq : ¬ si 384 (a1 + 3).toNatClampNeg ≤ y3) (ho : si 384 (3720 + 900 * t + 250 + 2 * d) = 21) (f4 : y2 + Int32.ofInt (-1) = v) (g4 : v.toInt = ((k + 1 : Nat) : Int)) (g5 : (v - 1).toInt = (k : Int)) : g_X12_isSo_L16 t0 a1 a2 a3 a4 U V sq (m + 1) y1 y2 y3 (va_up si 405 h) (va_up sj 404 g) = g_X12_isSo_L16 t0 a1 a2 a3 a4 U V sq m y1 v (y3 + Int32.ofInt 1) (va_up si 405 (upd h k (if h k = 0 then 0 else (if h (k + 1) = 0 then 0 else 1)))) (va_up sj 404 g) := by
  have k0 : (0 : Int32).toInt = 0 := by decide
  have k1 : (1 : Int32).toInt = 1 := by decide
  have s384 : va_up si 405 h 384 = si 384 := va_up_ne _ _ (by decide)
  obtain ⟨p1, p2⟩ := so_ps ht h9 hy3 hd
  rw [g_X12_isSo_L16_e]
  simp only [↓ap1_n, va_up_self, s384, p1, p2]
  rw [if_neg hq, ho]
  rw [if_pos (show (1 : Int32) < 21 by decide), if_neg (show ¬ (21 : Int32) = 2 by decide), if_pos (show (10 : Int32) ≤ 21 by decide), if_pos (show (20 : Int32) ≤ 21 by decide), if_neg (show ¬ (21 : Int32) = 20 by decide), if_pos (show (21 : Int32) = 21 from rfl)]
  simp only [g_X12_isSo_K349, g_X12_isSo_K349_2, g_X12_isSo_K318, ↓ap1_n, va_up_self, up_up, f4]
  rw [at_n g5, at_n g4]
  by_cases c : h k = 0
  · rw [if_pos c, if_pos c]
  · rw [if_neg c, if_neg c]
    by_cases c2 : h (k + 1) = 0
    · rw [if_pos c2, if_pos c2]
    · rw [if_neg c2, if_neg c2]
theorem ws_cmp {t d k m : Nat} {t0 a1 a2 a3 a4 y1 y2 y3 o v : Int32} {h : Nat → Int32} {g : Nat → Int64} (ht : t0.toInt = (t : Int)) (h9 : t ≤ 10) (hy3 : y3.toInt = (d : Int)) (hd : d ≤ 300) (hq : ¬ si 384 (a1 + 3).toNatClampNeg ≤ y3) (ho : si 384 (3720 + 900 * t + 250 + 2 * d) = o) (o1 : 10 ≤ o) (o2 : o < 20) (f4 : y1 + Int32.ofInt (-2) = v) (g4 : v.toInt = (k : Int)) (hk : k ≤ 300) {j : Nat} (h2 : y2.toInt = (j : Int)) : g_X12_isSo_L16 t0 a1 a2 a3 a4 U V sq (m + 1) y1 y2 y3 (va_up si 405 h) (va_up sj 404 g) = g_X12_isSo_L16 t0 a1 a2 a3 a4 U V sq m v (y2 + Int32.ofInt 1) (y3 + Int32.ofInt 1) (va_up si 405 (upd h j (g_X12_isAsked o (g k) (g (k + 1))))) (va_up sj 404 g) := by
  have k0 : (0 : Int32).toInt = 0 := by decide
  have k1 : (1 : Int32).toInt = 1 := by decide
  have s384 : va_up si 405 h 384 = si 384 := va_up_ne _ _ (by decide)
  obtain ⟨p1, p2⟩ := so_ps ht h9 hy3 hd
  rw [g_X12_isSo_L16_e]
  simp only [↓ap1_n, va_up_self, s384, p1, p2]
  rw [if_neg hq, ho]
  have o1' := Int32.le_iff_toInt_le.mp o1
  have o2' := Int32.lt_iff_toInt_lt.mp o2
  have k10 : (10 : Int32).toInt = 10 := by decide
  have k20 : (20 : Int32).toInt = 20 := by decide
  have k2 : (2 : Int32).toInt = 2 := by decide
  have n2 : ¬ o = 2 := fun q => by
    rw [q] at o1'
    omega
  have n20 : ¬ 20 ≤ o := fun q => by
    have := Int32.le_iff_toInt_le.mp q
    omega
  rw [if_pos (show 1 < o from Int32.lt_iff_toInt_lt.mpr (by rw [k1]; omega)), if_neg n2, if_pos o1, if_neg n20]
  simp only [f4, up_up]
  rw [at_n g4, at_n (upN g4 (by omega)), at_n h2]
theorem ws_ari {t d k m : Nat} {t0 a1 a2 a3 a4 y1 y2 y3 o v : Int32} {h : Nat → Int32} {g : Nat → Int64} (ht : t0.toInt = (t : Int)) (h9 : t ≤ 10) (hy3 : y3.toInt = (d : Int)) (hd : d ≤ 300) (hq : ¬ si 384 (a1 + 3).toNatClampNeg ≤ y3) (ho : si 384 (3720 + 900 * t + 250 + 2 * d) = o) (o1 : 2 < o) (o2 : o < 10) (f4 : y1 + Int32.ofInt (-1) = v) (g4 : v.toInt = ((k + 1 : Nat) : Int)) (g5 : (v - 1).toInt = (k : Int)) : g_X12_isSo_L16 t0 a1 a2 a3 a4 U V sq (m + 1) y1 y2 y3 (va_up si 405 h) (va_up sj 404 g) = g_X12_isSo_L16 t0 a1 a2 a3 a4 U V sq m v y2 (y3 + Int32.ofInt 1) (va_up si 405 h) (va_up sj 404 (vp_updL g k (g_X12_two o (g k) (g (k + 1))))) := by
  have k0 : (0 : Int32).toInt = 0 := by decide
  have k1 : (1 : Int32).toInt = 1 := by decide
  have s384 : va_up si 405 h 384 = si 384 := va_up_ne _ _ (by decide)
  obtain ⟨p1, p2⟩ := so_ps ht h9 hy3 hd
  rw [g_X12_isSo_L16_e]
  simp only [↓ap1_n, va_up_self, s384, p1, p2]
  rw [if_neg hq, ho]
  have o1' := Int32.lt_iff_toInt_lt.mp o1
  have o2' := Int32.lt_iff_toInt_lt.mp o2
  have k10 : (10 : Int32).toInt = 10 := by decide
  have k2 : (2 : Int32).toInt = 2 := by decide
  have n2 : ¬ o = 2 := fun q => by
    rw [q] at o1'
    omega
  have n10 : ¬ 10 ≤ o := fun q => by
    have := Int32.le_iff_toInt_le.mp q
    omega
  rw [if_pos (show 1 < o from Int32.lt_iff_toInt_lt.mpr (by rw [k1]; omega)), if_neg n2, if_neg n10]
  simp only [f4, up_up]
  rw [at_n g4, at_n g5]
set_option maxHeartbeats 4000000 in
/-- the code E of an EITHER from place c (class), d (reference) on, with what waits -/
theorem wk_sim {w t : Nat} {a0 a1 a2 a3 a4 t0 eC eM : Int32} {N : Nat → Int32} (ht : t0.toInt = (t : Int)) (h9 : t ≤ 10) (hC0 : tR 258 w (a0 + 1).toNatClampNeg = eC) (hM0 : si 384 (a1 + 3).toNatClampNeg = eM) (hN : ∀ j, j < 6 → ri 102 j = N j ∧ vb9 (N j)) (hN2 : ∀ (x : Int32) (j : Nat) (h : Nat → Int32) (g : Nat → Int64), x.toInt = (j : Int) → j < 6 → g_X12_named a2 x a3 a4 U V (va_up si 405 h) (va_up sj 404 g) sq = (N j, U, V, va_up si 405 h, va_up sj 404 g, sq)) : ∀ (E : List Int32) (n m c d : Nat) (x1 x2 y1 y2 y3 : Int32) (f h : Nat → Int32) (g : Nat → Int64) (P : VTs), E.length < n → E.length < m → (∀ i y, E[i]? = some y → tR 259 w (c + i) = y) → (∀ i y, E[i]? = some y → si 384 (3720 + 900 * t + 250 + 2 * (d + i)) = (en y).1 ∧ si 384 (3720 + 900 * t + 250 + 2 * (d + i) + 1) = (en y).2) → x2.toInt = (c : Int) → eC.toInt = ((c + E.length : Nat) : Int) → y3.toInt = (d : Int) → eM.toInt = ((d + E.length : Nat) : Int) → c + E.length ≤ 300 → d + E.length ≤ 300 → x1.toInt = (P.length : Int) - 1 → P.length ≤ 39 → y1.toInt = (nbF P : Int) → y2.toInt = (nbT P : Int) → SKc f P → SKm g h P → eTr E (P.map Prod.fst) = some [true] → ∃ (v : Int32) (f' h' : Nat → Int32) (g' : Nat → Int64), g_X8_work_102_103_L11 w a0 I J rj rq tR n x1 x2 (va_up ri 103 f) = (v, I, J, va_up ri 103 f', rj, rq) ∧ g_X12_isSo_L16 t0 a1 a2 a3 a4 U V sq m y1 y2 y3 (va_up si 405 h) (va_up sj 404 g) = (v, U, V, va_up si 405 h', va_up sj 404 g', sq) := by
  have k0 : (0 : Int32).toInt = 0 := by decide
  have k1 : (1 : Int32).toInt = 1 := by decide
  have k2 : (2 : Int32).toInt = 2 := by decide
  have k12 : (12 : Int32).toInt = 12 := by decide
  have k17 : (17 : Int32).toInt = 17 := by decide
  have k40 : (40 : Int32).toInt = 40 := by decide
  have z0 : (0 : Int32).toNatClampNeg = 0 := by decide
  have s384 : ∀ h : Nat → Int32, va_up si 405 h 384 = si 384 := fun h => va_up_ne _ _ (by decide)
  have r102 : ∀ f : Nat → Int32, va_up ri 103 f 102 = ri 102 := fun f => va_up_ne _ _ (by decide)
  intro E
  induction E with
  | nil =>
    intro n m c d x1 x2 y1 y2 y3 f h g P hn hm _ _ hx2 hC hy3 hM c3 d3 hx1 hP hy1 hy2 sc sm hT
    have hl : ([] : List Int32).length = 0 := rfl
    obtain ⟨n, rfl⟩ : ∃ k, n = k + 1 := ⟨n - 1, by omega⟩
    obtain ⟨m, rfl⟩ : ∃ k, m = k + 1 := ⟨m - 1, by omega⟩
    have hT' : some (P.map Prod.fst) = some [true] := hT
    obtain ⟨v, P', e, e'⟩ := mp1 (Option.some.inj hT')
    have e3 : P' = [] := by
      cases P' with
      | nil => rfl
      | cons a b => simp at e'
    rw [e3] at e
    rw [e] at hx1 sc sm
    have x0 : x1 = 0 := i32_k (k := 0) (by rw [hx1]; rfl) k0
    have c1 : f 0 = v := sc.1
    have m1 : h 0 = v := (sm.1.1 rfl).1
    rw [g_X8_work_102_103_L11_e, g_X12_isSo_L16_e]
    simp only [↓ap1_n, va_up_self, s384]
    rw [hC0, hM0, if_pos ((le_n hC hx2).mpr (by omega)), if_pos ((le_n hM hy3).mpr (by omega)), if_pos x0, x0, z0, c1, m1]
    exact ⟨v, f, h, g, rfl, rfl⟩
  | cons x E ih =>
    intro n m c d x1 x2 y1 y2 y3 f h g P hn hm hE hE2 hx2 hC hy3 hM c3 d3 hx1 hP hy1 hy2 sc sm hT
    have hl : (x :: E).length = E.length + 1 := rfl
    obtain ⟨n, rfl⟩ : ∃ k, n = k + 1 := ⟨n - 1, by omega⟩
    obtain ⟨m, rfl⟩ : ∃ k, m = k + 1 := ⟨m - 1, by omega⟩
    obtain ⟨T, t1, t2⟩ := eTr_i hT
    obtain ⟨o, v, he⟩ : ∃ o v : Int32, en x = (o, v) := ⟨_, _, rfl⟩
    have hc : tR 259 w c = x := by
      have := hE 0 x rfl
      rw [Nat.add_zero] at this
      exact this
    have hov := hE2 0 x rfl
    rw [Nat.add_zero, he] at hov
    have ho : si 384 (3720 + 900 * t + 250 + 2 * d) = o := hov.1
    have hv : si 384 (3720 + 900 * t + 250 + 2 * d + 1) = v := hov.2
    clear hov
    have lP : (P.map Prod.fst).length = P.length := List.length_map ..
    have nbl := nb_l P
    have nx2 : (x2 + Int32.ofInt 1).toInt = ((c + 1 : Nat) : Int) := up_i hx2 (by omega)
    have ny3 : (y3 + Int32.ofInt 1).toInt = ((d + 1 : Nat) : Int) := up_i hy3 (by omega)
    have go : ∀ (x1' y1' y2' : Int32) (f' h' : Nat → Int32) (g' : Nat → Int64) (P' : VTs), P'.map Prod.fst = T → x1'.toInt = (P'.length : Int) - 1 → P'.length ≤ 39 → y1'.toInt = (nbF P' : Int) → y2'.toInt = (nbT P' : Int) → SKc f' P' → SKm g' h' P' → ∃ (v : Int32) (f2 h2 : Nat → Int32) (g2 : Nat → Int64), g_X8_work_102_103_L11 w a0 I J rj rq tR n x1' (x2 + Int32.ofInt 1) (va_up ri 103 f') = (v, I, J, va_up ri 103 f2, rj, rq) ∧ g_X12_isSo_L16 t0 a1 a2 a3 a4 U V sq m y1' y2' (y3 + Int32.ofInt 1) (va_up si 405 h') (va_up sj 404 g') = (v, U, V, va_up si 405 h2, va_up sj 404 g2, sq) := fun x1' y1' y2' f' h' g' P' e1 e2 e3 e4 e5 e6 e7 => ih n m (c + 1) (d + 1) x1' _ y1' y2' _ f' h' g' P' (by omega) (by omega) (fun i y hy => by rw [show c + 1 + i = c + (i + 1) by omega]; exact hE (i + 1) y (by simpa using hy)) (fun i y hy => by rw [show d + 1 + i = d + (i + 1) by omega]; exact hE2 (i + 1) y (by simpa using hy)) nx2 (by rw [hC]; omega) ny3 (by rw [hM]; omega) (by omega) (by omega) e2 e3 e4 e5 e6 e7 (by rw [e1]; exact t2)
    clear ih hE hE2
    have q1 : ¬ tR 258 w (a0 + 1).toNatClampNeg ≤ x2 := fun q => by
      rw [hC0] at q
      have := (le_n hC hx2).mp q
      omega
    have q2 : ¬ si 384 (a1 + 3).toNatClampNeg ≤ y3 := fun q => by
      rw [hM0] at q
      have := (le_n hM hy3).mp q
      omega
    have d300 : d ≤ 300 := by omega
    clear hC0 hM0 hC hM
    rcases eTs_inv t1 with (⟨ha, l38, eT⟩ | ⟨ex, T', eS, eT⟩) | (⟨ex, T', eS, eT⟩ | ⟨ex, T', eS, eT⟩) | ⟨ex, T', eS, eT⟩ | ⟨ex, T', eS, eT⟩
    · -- a value
      have u1 : (x1 + Int32.ofInt 1).toInt = (P.length : Int) := by
        have := i_add hx1 (show (Int32.ofInt 1).toInt = 1 by decide) (by omega) (by omega)
        omega
      have w1 : (y1 + Int32.ofInt 1).toInt = ((nbF P + 1 : Nat) : Int) := up_i hy1 (by omega)
      have fin := fun (u : Int32) (hu : vb9 u) => go (x1 + Int32.ofInt 1) (y1 + Int32.ofInt 1) y2 (upd f P.length u) h (vp_updL g (nbF P) u.toInt64) ((false, u) :: P) (by rw [eT]; rfl) (by rw [u1]; show (P.length : Int) = ((P.length + 1 : Nat) : Int) - 1; omega) (by show P.length + 1 ≤ 39; omega) (by rw [w1, nbF_f]) (by rw [nbT_f]; exact hy2) (SKc_p sc) (SKm_f sm hu rfl)
      rcases ha with ha | ha
      · have he2 : en x = (0, x) := if_pos (Int32.le_iff_toInt_le.mpr (by rw [k0]; exact ha.1))
        obtain ⟨z1, z2⟩ := Prod.mk.inj (he.symm.trans he2)
        rw [wc_push q1 hx2 hc ha u1 (by omega), ws_val ht h9 hy3 d300 q2 (ho.trans z1) (hv.trans z2) hy1]
        exact fin x ⟨by omega, by omega⟩
      · have he2 := en_nm ha
        obtain ⟨z1, z2⟩ := Prod.mk.inj (he.symm.trans he2)
        obtain ⟨j, hj⟩ : ∃ j : Nat, -x.toInt - 12 = (j : Int) := ⟨(-x.toInt - 12).toNat, by omega⟩
        have j6 : j < 6 := by omega
        have j2 : (-12 - x).toInt = (j : Int) := (i_sub (show (-12 : Int32).toInt = -12 by decide) rfl (by omega) (by omega)).trans (by omega)
        rw [wc_name q1 hx2 hc ha u1 (by omega) hj (hN j j6).1, ws_nam ht h9 hy3 d300 q2 (ho.trans z1) (hv.trans z2) hy1 (hN2 _ j h g j2 j6)]
        exact fin (N j) (hN j j6).2
    · -- not
      obtain ⟨u, P', eP, eP'⟩ := mp1 eS
      subst eP
      have n11 : -x = 11 := by rw [ex]; decide
      have he2 : en x = (20, 0) := by rw [ex]; decide
      obtain ⟨z1, z2⟩ := Prod.mk.inj (he.symm.trans he2)
      have lq : ((true, u) :: P').length = P'.length + 1 := rfl
      have u1 : x1.toInt = (P'.length : Int) := by omega
      rw [nbT_t] at hy2 nbl
      have v1 : (y2 - 1).toInt = (nbT P' : Int) := by
        have := i_sub hy2 k1 (by omega) (by omega)
        omega
      have c1 : f P'.length = u := sc.1
      obtain ⟨s1, s2⟩ := sm.1.1 rfl
      have s1 : h (nbT P') = u := s1
      have s2 : u = 0 ∨ u = 1 := s2
      rw [wc_not q1 hx2 hc n11 u1, ws_not ht h9 hy3 d300 q2 (ho.trans z1) v1, c1, s1]
      have fin := fun (b : Int32) (hb : b = 0 ∨ b = 1) => go x1 y1 y2 (upd f P'.length b) (upd h (nbT P') b) g ((true, b) :: P') (by rw [eT, ← eP']; rfl) hx1 hP (by rw [nbF_t] at hy1 ⊢; exact hy1) (by rw [nbT_t]; exact hy2) (SKc_p sc.2) (SKm_t sm.2 hb)
      rcases s2 with s2 | s2
      · rw [if_pos s2, s2, show (1 : Int32) - 0 = 1 by decide]
        exact fin 1 (Or.inr rfl)
      · rw [if_neg (show ¬ u = 0 by rw [s2]; decide), s2, show (1 : Int32) - 1 = 0 by decide]
        exact fin 0 (Or.inl rfl)
    · -- - of one
      obtain ⟨u, P', eP, eP'⟩ := mp1 eS
      subst eP
      have n11 : -x = 35 := by rw [ex]; decide
      have he2 : en x = (2, 0) := by rw [ex]; decide
      obtain ⟨z1, z2⟩ := Prod.mk.inj (he.symm.trans he2)
      have lq : ((false, u) :: P').length = P'.length + 1 := rfl
      have u1 : x1.toInt = (P'.length : Int) := by omega
      rw [nbF_f] at hy1 nbl
      have v1 : (y1 - 1).toInt = (nbF P' : Int) := by
        have := i_sub hy1 k1 (by omega) (by omega)
        omega
      have c1 : f P'.length = u := sc.1
      obtain ⟨s1, s2⟩ := sm.1.2 rfl
      have s1 : g (nbF P') = u.toInt64 := s1
      have s2 : vb9 u := s2
      rw [wc_neg q1 hx2 hc n11 u1, ws_neg ht h9 hy3 d300 q2 (ho.trans z1) v1, c1, s1, ng64 s2]
      exact go _ _ _ _ _ _ ((false, -u) :: P') (by rw [eT, ← eP']; rfl) hx1 hP (by rw [nbF_f]; exact hy1) (by rw [nbT_f] at hy2 ⊢; exact hy2) (SKc_p sc.2) (SKm_f sm.2 (vb_ng s2) rfl)
    · -- or, and
      obtain ⟨b, P1, eP, eP1⟩ := mp1 eS
      subst eP
      obtain ⟨a, P', eP2, eP'⟩ := mp1 eP1
      subst eP2
      have lq : ((true, b) :: (true, a) :: P').length = P'.length + 2 := rfl
      have u1 : x1.toInt = (P'.length : Int) + 1 := by omega
      rw [nbT_t, nbT_t] at hy2 nbl
      rw [nbF_t, nbF_t] at hy1 nbl
      have l39 : P'.length ≤ 37 := by omega
      have c1 : f (P'.length + 1) = b := sc.1
      have c2 : f P'.length = a := sc.2.1
      obtain ⟨s1, s2⟩ := sm.1.1 rfl
      have s1 : h (nbT ((true, a) :: P')) = b := s1
      have s2 : b = 0 ∨ b = 1 := s2
      rw [nbT_t] at s1
      obtain ⟨s3, s4⟩ := sm.2.1.1 rfl
      have s3 : h (nbT P') = a := s3
      have s4 : a = 0 ∨ a = 1 := s4
      have tl : nbT P' ≤ 39 := by omega
      obtain ⟨x4, e4, h4⟩ : ∃ y, x1 + Int32.ofInt (-1) = y ∧ y.toInt = (P'.length : Int) := ⟨_, rfl, (dn_i (by omega) (by omega)).trans (by omega)⟩
      obtain ⟨w4, f4, g4, g5⟩ : ∃ y, y2 + Int32.ofInt (-1) = y ∧ y.toInt = ((nbT P' + 1 : Nat) : Int) ∧ (y - 1).toInt = (nbT P' : Int) := ⟨_, rfl, dn1 hy2 tl⟩
      have fin := fun (b : Int32) (hb : b = 0 ∨ b = 1) => go x4 y1 w4 (upd f P'.length b) (upd h (nbT P') b) g ((true, b) :: P') (by rw [eT, ← eP']; rfl) (by rw [h4]; show (P'.length : Int) = ((P'.length + 1 : Nat) : Int) - 1; omega) (by show P'.length + 1 ≤ 39; omega) (by rw [nbF_t]; exact hy1) (by rw [nbT_t]; exact g4) (SKc_p sc.2.2) (SKm_t sm.2.2 hb)
      rcases ex with ex | ex
      · have he2 : en x = (22, 0) := by rw [ex]; decide
        obtain ⟨z1, z2⟩ := Prod.mk.inj (he.symm.trans he2)
        rw [wc_join q1 hx2 hc (show -x = 9 by rw [ex]; decide) (by decide) e4 h4 (by omega), ws_or ht h9 hy3 d300 q2 (ho.trans z1) f4 g4 g5, c1, c2, s1, s3, jn_or s4 s2]
        refine fin _ ?_
        rcases s4 with s4 | s4
        · rw [if_pos s4]
          rcases s2 with s2 | s2
          · rw [if_pos s2]; exact Or.inl rfl
          · rw [if_neg (show ¬ b = 0 by rw [s2]; decide)]; exact Or.inr rfl
        · rw [if_neg (show ¬ a = 0 by rw [s4]; decide)]; exact Or.inr rfl
      · have he2 : en x = (21, 0) := by rw [ex]; decide
        obtain ⟨z1, z2⟩ := Prod.mk.inj (he.symm.trans he2)
        rw [wc_join q1 hx2 hc (show -x = 10 by rw [ex]; decide) (by decide) e4 h4 (by omega), ws_and ht h9 hy3 d300 q2 (ho.trans z1) f4 g4 g5, c1, c2, s1, s3, jn_and s4 s2]
        refine fin _ ?_
        rcases s4 with s4 | s4
        · rw [if_pos s4]; exact Or.inl rfl
        · rw [if_neg (show ¬ a = 0 by rw [s4]; decide)]
          rcases s2 with s2 | s2
          · rw [if_pos s2]; exact Or.inl rfl
          · rw [if_neg (show ¬ b = 0 by rw [s2]; decide)]; exact Or.inr rfl
    · -- one more than the other, or the like
      obtain ⟨b, P1, eP, eP1⟩ := mp1 eS
      subst eP
      obtain ⟨a, P', eP2, eP'⟩ := mp1 eP1
      subst eP2
      have lq : ((false, b) :: (false, a) :: P').length = P'.length + 2 := rfl
      have u1 : x1.toInt = (P'.length : Int) + 1 := by omega
      rw [nbT_f, nbT_f] at hy2 nbl
      rw [nbF_f, nbF_f] at hy1 nbl
      have l39 : P'.length ≤ 37 := by omega
      have fl : nbF P' ≤ 39 := by omega
      have c1 : f (P'.length + 1) = b := sc.1
      have c2 : f P'.length = a := sc.2.1
      have s1 : g (nbF ((false, a) :: P')) = b.toInt64 := (sm.1.2 rfl).1
      rw [nbF_f] at s1
      have s3 : g (nbF P') = a.toInt64 := (sm.2.1.2 rfl).1
      have w2 : (y2 + Int32.ofInt 1).toInt = ((nbT P' + 1 : Nat) : Int) := up_i hy2 (by omega)
      obtain ⟨x4, e4, h4⟩ : ∃ y, x1 + Int32.ofInt (-1) = y ∧ y.toInt = (P'.length : Int) := ⟨_, rfl, (dn_i (by omega) (by omega)).trans (by omega)⟩
      obtain ⟨w4, f4, g4⟩ : ∃ y, y1 + Int32.ofInt (-2) = y ∧ y.toInt = (nbF P' : Int) := ⟨_, rfl, dn2 hy1 fl⟩
      obtain ⟨cc, oo, n11, he2, ⟨o1, o2, o3, o4⟩, pr⟩ := en_cmp ex
      obtain ⟨z1, z2⟩ := Prod.mk.inj (he.symm.trans he2)
      obtain ⟨j1, j2⟩ := jn_cm (a := a) (b := b) cc oo pr
      rw [j1] at j2
      rw [wc_join q1 hx2 hc n11 (tk_j o3 o4) e4 h4 (by omega), ws_cmp ht h9 hy3 d300 q2 (ho.trans z1) o1 o2 f4 g4 (by omega) hy2, c1, c2, s1, s3, j1]
      exact go _ _ _ _ _ _ ((true, g_X12_isAsked oo a.toInt64 b.toInt64) :: P') (by rw [eT, ← eP']; rfl) (by rw [h4]; show (P'.length : Int) = ((P'.length + 1 : Nat) : Int) - 1; omega) (by show P'.length + 1 ≤ 39; omega) (by rw [nbF_t]; exact g4) (by rw [nbT_t]; exact w2) (SKc_p sc.2.2) (SKm_t sm.2.2 j2)
    · -- + - * /
      obtain ⟨b, P1, eP, eP1⟩ := mp1 eS
      subst eP
      obtain ⟨a, P', eP2, eP'⟩ := mp1 eP1
      subst eP2
      have lq : ((false, b) :: (false, a) :: P').length = P'.length + 2 := rfl
      have u1 : x1.toInt = (P'.length : Int) + 1 := by omega
      rw [nbT_f, nbT_f] at hy2 nbl
      rw [nbF_f, nbF_f] at hy1 nbl
      have l39 : P'.length ≤ 37 := by omega
      have fl : nbF P' ≤ 39 := by omega
      have c1 : f (P'.length + 1) = b := sc.1
      have c2 : f P'.length = a := sc.2.1
      obtain ⟨s1, s2⟩ := sm.1.2 rfl
      have s1 : g (nbF ((false, a) :: P')) = b.toInt64 := s1
      have s2 : vb9 b := s2
      rw [nbF_f] at s1
      obtain ⟨s3, s4⟩ := sm.2.1.2 rfl
      have s3 : g (nbF P') = a.toInt64 := s3
      have s4 : vb9 a := s4
      obtain ⟨x4, e4, h4⟩ : ∃ y, x1 + Int32.ofInt (-1) = y ∧ y.toInt = (P'.length : Int) := ⟨_, rfl, (dn_i (by omega) (by omega)).trans (by omega)⟩
      obtain ⟨w4, f4, g4, g5⟩ : ∃ y, y1 + Int32.ofInt (-1) = y ∧ y.toInt = ((nbF P' + 1 : Nat) : Int) ∧ (y - 1).toInt = (nbF P' : Int) := ⟨_, rfl, dn1 hy1 fl⟩
      obtain ⟨cc, oo, n11, he2, ⟨o1, o2, o3, o4⟩, pr⟩ := en_ari ex
      obtain ⟨z1, z2⟩ := Prod.mk.inj (he.symm.trans he2)
      obtain ⟨j1, j2⟩ := jn_ar s4 s2 cc oo pr
      rw [wc_join q1 hx2 hc n11 (tk_j o3 o4) e4 h4 (by omega), ws_ari ht h9 hy3 d300 q2 (ho.trans z1) o1 o2 f4 g4 g5, c1, c2, s1, s3, ← j1]
      exact go _ _ _ _ _ _ ((false, g_X8_join cc a b) :: P') (by rw [eT, ← eP']; rfl) (by rw [h4]; show (P'.length : Int) = ((P'.length + 1 : Nat) : Int) - 1; omega) (by show P'.length + 1 ≤ 39; omega) (by rw [nbF_f]; exact g4) (by rw [nbT_f]; exact hy2) (SKc_p sc.2.2) (SKm_f sm.2.2 j2 rfl)
/-- an EITHER's place, both sides -/
theorem cl_ei {r : Nat → Nat → Int32} {W : Nat} {A : Nat → Int32} : ∀ (M : CLs) (w : Nat), CTX r M → RTX W A M w → ∀ i, i < M.length → (r 257 i).toInt < 4 → ∃ (E : List Int32) (c d : Nat), (r 258 i).toInt = (c : Int) ∧ (r 258 (i + 1)).toInt = ((c + E.length : Nat) : Int) ∧ (∀ j y, E[j]? = some y → r 259 (c + j) = y) ∧ (A (W + 1 + 12 * i + 2)).toInt = (d : Int) ∧ (A (W + 1 + 12 * i + 3)).toInt = ((d + E.length : Nat) : Int) ∧ (∀ j y, E[j]? = some y → A (W + 250 + 2 * (d + j)) = (en y).1 ∧ A (W + 250 + 2 * (d + j) + 1) = (en y).2) ∧ eTr E [] = some [true] ∧ c + E.length ≤ tot M ∧ d + E.length ≤ w
  | [], _, _, _, _, h, _ => absurd h (Nat.not_lt_zero _)
  | x :: M, w, hC, hR, i, h, h4 => by
    obtain ⟨c1, c2, c3, c4⟩ := hC
    obtain ⟨r1, r2⟩ := hR
    have hl : (x :: M).length = M.length + 1 := rfl
    have ht : tot (x :: M) = tot M + x.2.length := rfl
    by_cases q : i = M.length
    · subst q
      rw [c2] at h4
      rcases r2 with ⟨b0, bt, w0, b1, b2, b3, b4, b5⟩ | ⟨b0, _⟩ | ⟨b0, _⟩
      · exact ⟨x.2, tot M, w0, ctx_tot M c1, c3, c4, b3, by rw [b4, b2], b5, bt, by omega, by omega⟩
      · omega
      · omega
    · have hR' : ∃ w', RTX W A M w' ∧ w' ≤ w := by
        rcases r2 with ⟨_, _, w0, b1, b2, _⟩ | ⟨_, _, b1, _⟩ | ⟨_, b1, _⟩
        · exact ⟨w0, b1, by omega⟩
        · exact ⟨w, b1, Nat.le_refl _⟩
        · exact ⟨w, b1, Nat.le_refl _⟩
      obtain ⟨w', hR', hw⟩ := hR'
      obtain ⟨E, c, d, g1, g2, g3, g4, g5, g6, g7, g8, g9⟩ := cl_ei M w' c1 hR' i (by omega) h4
      exact ⟨E, c, d, g1, g2, g3, g4, g5, g6, g7, by omega, by omega⟩
/-- the first EITHER of a sort that is so, both sides -/
theorem fs_sim {w t : Nat} {a p mo un t0 : Int32} {M : CLs} {N : Nat → Int32} (ht : t0.toInt = (t : Int)) (h9 : t ≤ 9) (hX : TEX1 tI tR (si 384) w t M) (ha0 : 0 ≤ a.toInt) (ha4 : a.toInt < 4) (hN : ∀ j, j < 6 → ri 102 j = N j ∧ vb9 (N j)) (hN2 : ∀ (x : Int32) (j : Nat) (h : Nat → Int32) (g : Nat → Int64), x.toInt = (j : Int) → j < 6 → g_X12_named p x mo un U V (va_up si 405 h) (va_up sj 404 g) sq = (N j, U, V, va_up si 405 h, va_up sj 404 g, sq)) : ∀ (m : Nat) (x : Int32) (j : Nat) (f h : Nat → Int32) (g : Nat → Int64), x.toInt = (j : Int) → j ≤ M.length → M.length - j < m → ∃ (v : Int32) (f' h' : Nat → Int32) (g' : Nat → Int64), g_X8_firstSo_102_103_L3 w a I J rj rq tI tR m x (va_up ri 103 f) = (v, I, J, va_up ri 103 f', rj, rq) ∧ g_X12_firstSo_L11 (srC a) p mo un U V sq t0 m x (va_up si 405 h) (va_up sj 404 g) = (v, U, V, va_up si 405 h', va_up sj 404 g', sq) ∧ (v = -1 ∨ 0 ≤ v.toInt) := by
  obtain ⟨x1, x2, x3, x4, u, x5, x6, x7⟩ := hX
  have k0 : (0 : Int32).toInt = 0 := by decide
  have s384 : ∀ h : Nat → Int32, va_up si 405 h 384 = si 384 := fun h => va_up_ne _ _ (by decide)
  have hs := TEX1_s (w := w) (t := t) (M := M) (a := a) (tI := tI) (tR := tR) (A := si 384) ⟨x1, x2, x3, x4, u, x5, x6, x7⟩ ha0 (by omega)
  have nt : ¬ t0 < 0 := fun q => by
    have := Int32.lt_iff_toInt_lt.mp q
    rw [k0] at this
    omega
  intro m
  induction m with
  | zero => intro _ _ _ _ _ _ _ h; exact absurd h (Nat.not_lt_zero _)
  | succ m ih =>
    intro x j f h g hx hj hm
    rw [g_X8_firstSo_102_103_L3_e, g_X12_firstSo_L11_e]
    simp only [↓ap1_n]
    rw [if_neg nt, bn_n (cof_v ht (by omega)), s384, x2]
    by_cases q : tI 256 w ≤ x
    · rw [if_pos q, if_pos q]
      exact ⟨-1, f, h, g, rfl, rfl, Or.inl rfl⟩
    · have q1 : ¬ M.length ≤ j := fun y => q ((le_n x1 hx).mpr y)
      obtain ⟨y, e1, e2⟩ := cat_v (U := U) (V := V) (si := va_up si 405 h) (sj := va_up sj 404 g) (sq := sq) ht (by omega) hx (by omega)
      have nx : (x + Int32.ofInt 1).toInt = ((j + 1 : Nat) : Int) := up_i hx (by omega)
      rw [if_neg q, if_neg q, bn_n e1, bn_n e1, at_n hx, at_n e2]
      by_cases c : tR 257 w j = a
      · rw [if_pos c, if_pos ((hs j (by omega)).mpr c), g_X8_work_102_103_e, g_X12_isSo_e]
        simp only [↓ap1_n, s384]
        obtain ⟨E, cc, dd, b1, b2, b3, b4, b5, b6, b7, b8, b9⟩ := cl_ei M u x4 x5 j (by omega) (by show (tR 257 w j).toInt < 4; rw [c]; exact ha4)
        have b1 : (tR 258 w j).toInt = (cc : Int) := b1
        have b2 : (tR 258 w (j + 1)).toInt = ((cc + E.length : Nat) : Int) := b2
        have j1 : (x + 1).toNatClampNeg = j + 1 := at_n (upN hx (by omega))
        have y2 : (y + 2).toNatClampNeg = 3720 + 900 * t + 1 + 12 * j + 2 := at_n ((i_add e2 (show (2 : Int32).toInt = 2 by decide) (by omega) (by omega)).trans (by omega))
        have y3 : (y + 3).toNatClampNeg = 3720 + 900 * t + 1 + 12 * j + 3 := at_n ((i_add e2 (show (3 : Int32).toInt = 3 by decide) (by omega) (by omega)).trans (by omega))
        rw [at_n hx, y2]
        obtain ⟨v, f', h', g', w1, w2⟩ := wk_sim (I := I) (J := J) (ri := ri) (rj := rj) (rq := rq) (U := U) (V := V) (si := si) (sj := sj) (sq := sq) (tR := tR) (w := w) (t := t) (a0 := x) (a1 := y) (a2 := p) (a3 := mo) (a4 := un) (t0 := t0) (N := N) ht (by omega) (by rw [j1]) (by rw [y3]) hN hN2 E ((300 - (tR 258 w j).toInt).toNat + 1) ((300 - (si 384 (3720 + 900 * t + 1 + 12 * j + 2)).toInt).toNat + 1) cc dd (-1) (tR 258 w j) 0 0 (si 384 (3720 + 900 * t + 1 + 12 * j + 2)) f h g [] (by rw [b1]; omega) (by rw [b4]; omega) b3 b6 b1 b2 b4 b5 (by omega) (by omega) (by decide) (by decide) k0 k0 trivial trivial b7
        rw [bn_n w1, bn_n w2]
        by_cases d : v = 0
        · rw [if_pos d, if_pos d, g_X8_firstSo_102_103_K37_e]
          simp only [↓ap1_n]
          exact ih _ (j + 1) f' h' g' nx (by omega) (by omega)
        · rw [if_neg d, if_neg d]
          exact ⟨x, f', h', g', rfl, rfl, Or.inr (by omega)⟩
      · rw [if_neg c, if_neg (fun z => c ((hs j (by omega)).mp z)), g_X8_firstSo_102_103_K37_e]
        simp only [↓ap1_n]
        exact ih _ (j + 1) f h g nx (by omega) (by omega)
/-- whatever waits in the rows that are written on the way: one answer -/
theorem so_un {w t : Nat} {a p mo un t0 : Int32} {M : CLs} {N : Nat → Int32} (ht : t0.toInt = (t : Int)) (h9 : t ≤ 9) (hX : TEX1 tI tR (si 384) w t M) (ha0 : 0 ≤ a.toInt) (ha4 : a.toInt < 4) (hN : ∀ j, j < 6 → vb9 (N j)) (hN2 : ∀ (x : Int32) (j : Nat) (h : Nat → Int32) (g : Nat → Int64), x.toInt = (j : Int) → j < 6 → g_X12_named p x mo un U V (va_up si 405 h) (va_up sj 404 g) sq = (N j, U, V, va_up si 405 h, va_up sj 404 g, sq)) : ∃ v : Int32, (v = -1 ∨ 0 ≤ v.toInt) ∧ (∀ R : Nat → Nat → Int32, (∀ j, j < 6 → R 102 j = N j) → ∃ f' : Nat → Int32, g_X8_firstSo_102_103 tI tR w a I J R rj rq = (v, I, J, va_up R 103 f', rj, rq)) ∧ ∀ (h : Nat → Int32) (g : Nat → Int64), ∃ (h' : Nat → Int32) (g' : Nat → Int64), g_X12_firstSo_L11 (srC a) p mo un U V sq t0 ((20 - (0 : Int32).toInt).toNat + 1) 0 (va_up si 405 h) (va_up sj 404 g) = (v, U, V, va_up si 405 h', va_up sj 404 g', sq) := by
  have k0 : (0 : Int32).toInt = 0 := by decide
  have hM : M.length ≤ 20 := hX.2.2.1
  have one : ∀ R : Nat → Nat → Int32, (∀ j, j < 6 → R 102 j = N j) → ∀ (h : Nat → Int32) (g : Nat → Int64), ∃ (v : Int32) (f' h' : Nat → Int32) (g' : Nat → Int64), g_X8_firstSo_102_103 tI tR w a I J R rj rq = (v, I, J, va_up R 103 f', rj, rq) ∧ g_X12_firstSo_L11 (srC a) p mo un U V sq t0 ((20 - (0 : Int32).toInt).toNat + 1) 0 (va_up si 405 h) (va_up sj 404 g) = (v, U, V, va_up si 405 h', va_up sj 404 g', sq) ∧ (v = -1 ∨ 0 ≤ v.toInt) := fun R hR h g => by
    rw [g_X8_firstSo_102_103_e]
    have := fs_sim (I := I) (J := J) (ri := R) (rj := rj) (rq := rq) (U := U) (V := V) (si := si) (sj := sj) (sq := sq) (tI := tI) (tR := tR) (p := p) (mo := mo) (un := un) ht h9 hX ha0 ha4 (fun j hj => ⟨hR j hj, hN j hj⟩) hN2 ((20 - (0 : Int32).toInt).toNat + 1) 0 0 (R 103) h g k0 (Nat.zero_le _) (by rw [k0]; omega)
    rw [up_id] at this
    exact this
  obtain ⟨v, f0, h0, g0, e1, e2, e3⟩ := one (fun _ => N) (fun _ _ => rfl) (fun _ => 0) (fun _ => 0)
  refine ⟨v, e3, fun R hR => ?_, fun h g => ?_⟩
  · obtain ⟨v2, f2, h2, g2, y1, y2, _⟩ := one R hR (fun _ => 0) (fun _ => 0)
    have : v2 = v := (Prod.mk.inj (y2.symm.trans e2)).1
    rw [this] at y1
    exact ⟨f2, y1⟩
  · obtain ⟨v2, f2, h2, g2, y1, y2, _⟩ := one (fun _ => N) (fun _ _ => rfl) h g
    have : v2 = v := (Prod.mk.inj (y1.symm.trans e1)).1
    rw [this] at y2
    exact ⟨h2, g2, y2⟩
end PK1
