/-! ===== pure: AREA of both sides alike (behind pw) ===== -/
section PV
variable {I : Nat → Int32} {J : Nat → Int64} {rj : Nat → Nat → Int64} {rq : Nat → Nat → Option Nat}
variable {U : Nat → Int32} {V : Nat → Int64} {si : Nat → Nat → Int32} {sj : Nat → Nat → Int64} {sq : Nat → Nat → Option Nat}
theorem area_v {a0 : Int64} {a1 x19 : Int32} {R N m : Nat} {r : Nat → Nat → Int32} (hR : a1.toInt = (R : Int)) (hR2 : R ≤ 20) (hRm : (si 384 16).toInt = (R : Int)) (hN : (I 65).toInt = (N : Int)) (hN2 : N ≤ 40) (hNm : (si 384 2).toInt = (N : Int)) (hm : x19.toInt = (m : Int)) (hm2 : m ≤ 600) (hX : ∀ c, c < N → r 71 c = si 384 (100 + 16 * c + 2)) (hY : ∀ c, c < N → r 72 c = si 384 (100 + 16 * c + 3)) (hP : ∀ c, c < N → (0 ≤ (si 384 (100 + 16 * c + 2)).toInt ∧ (si 384 (100 + 16 * c + 2)).toInt ≤ 31) ∧ (0 ≤ (si 384 (100 + 16 * c + 3)).toInt ∧ (si 384 (100 + 16 * c + 3)).toInt ≤ 31)) (hK : ∀ c, c < N → hb a0 c = rkA (si 384) m c) : ∃ (y : Int32) (r' : Nat → Nat → Int32), g_X2_countArea a0 a1 I J r rj rq = (y, I, J, r', rj, rq) ∧ (∀ t, t ≠ 82 → t ≠ 83 → r' t = r t) ∧ g_X12_areaOf_K23 U V si sj sq x19 = (y, U, V, si, sj, sq) := by
  obtain ⟨f, hf⟩ : ∃ f : Nat → Bool, ∀ p, (f p = true ↔ ∃ c, c < N ∧ rkA (si 384) m c = true ∧ NM (si 384) R c (p / 32) (p % 32)) := by
    refine ⟨fun p => (List.range N).any fun c => rkA (si 384) m c && decide (ad (p % 32) (si 384 (100 + 16 * c + 2)).toInt.toNat * ad (p % 32) (si 384 (100 + 16 * c + 2)).toInt.toNat + ad (p / 32) (si 384 (100 + 16 * c + 3)).toInt.toNat * ad (p / 32) (si 384 (100 + 16 * c + 3)).toInt.toNat ≤ R * R), fun p => ?_⟩
    rw [List.any_eq_true]
    constructor
    · rintro ⟨c, h1, h2⟩
      rw [Bool.and_eq_true, decide_eq_true_iff] at h2
      exact ⟨c, List.mem_range.mp h1, h2.1, h2.2⟩
    · rintro ⟨c, h1, h2, h3⟩
      exact ⟨c, List.mem_range.mpr h1, by rw [Bool.and_eq_true, decide_eq_true_iff]; exact ⟨h2, h3⟩⟩
  obtain ⟨y, r', e1, e2, e3⟩ := area_c (I := I) (J := J) (rj := rj) (rq := rq) (a0 := a0) hR hR2 hN hN2 (r := r) (fun c hc => by rw [hX c hc, hY c hc]; exact hP c hc) f (fun k i hk hi => by
    rw [hf, show (32 * k + i) / 32 = k by omega, show (32 * k + i) % 32 = i by omega]
    constructor
    · rintro ⟨c, h1, h2, h3⟩
      exact ⟨c, h1, (hK c h1).trans h2, by unfold NRg; rw [hX c h1, hY c h1]; exact h3⟩
    · rintro ⟨c, h1, h2, h3⟩
      refine ⟨c, h1, (hK c h1).symm.trans h2, ?_⟩
      unfold NRg at h3
      rw [hX c h1, hY c h1] at h3
      exact h3)
  obtain ⟨y2, g1, g2⟩ := area_m (U := U) (V := V) (si := si) (sj := sj) (sq := sq) (x19 := x19) hNm hN2 hRm hR2 (rkA (si 384) m) (fun x c hx hc => wr_m hx (by omega) hm hm2) hP f (fun p _ => hf p)
  have e : y2 = y := Int32.toInt_inj.mp (g2.trans e3.symm)
  rw [e] at g1
  exact ⟨y, r', e1, e2, g1⟩
end PV
/-! ===== pure: what an EITHER comes to, both sides (behind pe, px2) ===== -/
section PK1
variable {I : Nat → Int32} {J : Nat → Int64} {ri : Nat → Nat → Int32} {rj : Nat → Nat → Int64} {rq : Nat → Nat → Option Nat}
variable {U : Nat → Int32} {V : Nat → Int64} {si : Nat → Nat → Int32} {sj : Nat → Nat → Int64} {sq : Nat → Nat → Option Nat}
variable {tI : Nat → Nat → Int32} {tR : Nat → Nat → Nat → Int32}
/-- the cells of TEXTS -/
theorem lz_x {j : Nat} (h : zn j ∈ lzt) : j = 6 ∨ 3720 ≤ j := by
  have g : zn j = 6 ∨ (900 ≤ zn j ∧ zn j ≤ 931) := (by decide : ∀ z, z ∈ lzt → z = 6 ∨ (900 ≤ z ∧ z ≤ 931)) _ h
  by_cases q : 3720 ≤ j
  · exact Or.inr q
  · refine Or.inl ?_
    by_cases a : j < 20
    · have e : zn j = j := by
        unfold zn
        rw [if_pos a]
      omega
    · exfalso
      by_cases b0 : j < 80
      · have e : zn j = 100 + (j - 20) % 5 := by
          unfold zn
          rw [if_neg a, if_pos b0]
        omega
      by_cases b1 : j < 85
      · have e : zn j = 200 := by
          unfold zn
          rw [if_neg a, if_neg b0, if_pos b1]
        omega
      by_cases b2 : j < 100
      · have e : zn j = 999 := by
          unfold zn
          rw [if_neg a, if_neg b0, if_neg b1, if_pos b2]
        omega
      by_cases b3 : j < 740
      · have e : zn j = 300 + (j - 100) % 16 := by
          unfold zn
          rw [if_neg a, if_neg b0, if_neg b1, if_neg b2, if_pos b3]
        omega
      by_cases b4 : j < 1220
      · have e : zn j = 400 + (j - 740) % 12 := by
          unfold zn
          rw [if_neg a, if_neg b0, if_neg b1, if_neg b2, if_neg b3, if_pos b4]
        omega
      by_cases b5 : j < 2220
      · have e : zn j = 500 + (j - 1220) % 5 := by
          unfold zn
          rw [if_neg a, if_neg b0, if_neg b1, if_neg b2, if_neg b3, if_neg b4, if_pos b5]
        omega
      by_cases b6 : j < 2340
      · have e : zn j = 600 + (j - 2220) % 4 := by
          unfold zn
          rw [if_neg a, if_neg b0, if_neg b1, if_neg b2, if_neg b3, if_neg b4, if_neg b5, if_pos b6]
        omega
      by_cases b7 : j < 2400
      · have e : zn j = 999 := by
          unfold zn
          rw [if_neg a, if_neg b0, if_neg b1, if_neg b2, if_neg b3, if_neg b4, if_neg b5, if_neg b6, if_pos b7]
        omega
      by_cases b8 : j < 2520
      · have e : zn j = 700 + (j - 2400) % 4 := by
          unfold zn
          rw [if_neg a, if_neg b0, if_neg b1, if_neg b2, if_neg b3, if_neg b4, if_neg b5, if_neg b6, if_neg b7, if_pos b8]
        omega
      have e : zn j = 800 + (j - 2520) % 2 := by
        unfold zn
        rw [if_neg a, if_neg b0, if_neg b1, if_neg b2, if_neg b3, if_neg b4, if_neg b5, if_neg b6, if_neg b7, if_neg b8, if_pos (show j < 3720 by omega)]
      omega
/-- values and truths that wait, the latest first -/
abbrev VTs : Type := List (Bool × Int32)
def nbF : VTs → Nat
  | [] => 0
  | x :: P => (if x.1 = true then 0 else 1) + nbF P
def nbT : VTs → Nat
  | [] => 0
  | x :: P => (if x.1 = true then 1 else 0) + nbT P
/-- the class's stack -/
def SKc (f : Nat → Int32) : VTs → Prop
  | [] => True
  | x :: P => f P.length = x.2 ∧ SKc f P
/-- the reference's two -/
def SKm (g : Nat → Int64) (h : Nat → Int32) : VTs → Prop
  | [] => True
  | x :: P => ((x.1 = true → h (nbT P) = x.2 ∧ (x.2 = 0 ∨ x.2 = 1)) ∧ (x.1 = false → g (nbF P) = x.2.toInt64 ∧ vb9 x.2)) ∧ SKm g h P
theorem nbF_t {v : Int32} {P : VTs} : nbF ((true, v) :: P) = nbF P := by
  show (if true = true then 0 else 1) + nbF P = nbF P
  rw [if_pos rfl, Nat.zero_add]
theorem nbF_f {v : Int32} {P : VTs} : nbF ((false, v) :: P) = nbF P + 1 := by
  show (if false = true then 0 else 1) + nbF P = nbF P + 1
  rw [if_neg (by decide), Nat.add_comm]
theorem nbT_t {v : Int32} {P : VTs} : nbT ((true, v) :: P) = nbT P + 1 := by
  show (if true = true then 1 else 0) + nbT P = nbT P + 1
  rw [if_pos rfl, Nat.add_comm]
theorem nbT_f {v : Int32} {P : VTs} : nbT ((false, v) :: P) = nbT P := by
  show (if false = true then 1 else 0) + nbT P = nbT P
  rw [if_neg (by decide), Nat.zero_add]
theorem nb_l : ∀ P : VTs, nbF P ≤ P.length ∧ nbT P ≤ P.length
  | [] => ⟨Nat.le_refl _, Nat.le_refl _⟩
  | (true, v) :: P => by
    have i := nb_l P
    rw [nbF_t, nbT_t]
    show nbF P ≤ P.length + 1 ∧ nbT P + 1 ≤ P.length + 1
    omega
  | (false, v) :: P => by
    have i := nb_l P
    rw [nbF_f, nbT_f]
    show nbF P + 1 ≤ P.length + 1 ∧ nbT P ≤ P.length + 1
    omega
theorem SKc_u {f : Nat → Int32} {v : Int32} {k : Nat} : ∀ P : VTs, SKc f P → P.length ≤ k → SKc (upd f k v) P
  | [], _, _ => trivial
  | x :: P, h, hk => by
    have hl : (x :: P).length = P.length + 1 := rfl
    exact ⟨(upd_n _ _ (by omega)).trans h.1, SKc_u P h.2 (by omega)⟩
theorem SKc_p {f : Nat → Int32} {b : Bool} {v : Int32} {P : VTs} (h : SKc f P) : SKc (upd f P.length v) ((b, v) :: P) := ⟨upd_s _ _ _, SKc_u P h (Nat.le_refl _)⟩
theorem SKm_g {g : Nat → Int64} {h : Nat → Int32} {v : Int64} {k : Nat} : ∀ P : VTs, SKm g h P → nbF P ≤ k → SKm (vp_updL g k v) h P
  | [], _, _ => trivial
  | (true, x) :: P, s, hk => by
    rw [nbF_t] at hk
    exact ⟨⟨s.1.1, fun q => absurd (show true = false from q) (by decide)⟩, SKm_g P s.2 hk⟩
  | (false, x) :: P, s, hk => by
    rw [nbF_f] at hk
    refine ⟨⟨fun q => absurd (show false = true from q) (by decide), fun q => ?_⟩, SKm_g P s.2 (by omega)⟩
    exact ⟨(vL_n _ _ (by omega)).trans (s.1.2 q).1, (s.1.2 q).2⟩
theorem SKm_h {g : Nat → Int64} {h : Nat → Int32} {v : Int32} {k : Nat} : ∀ P : VTs, SKm g h P → nbT P ≤ k → SKm g (upd h k v) P
  | [], _, _ => trivial
  | (false, x) :: P, s, hk => by
    rw [nbT_f] at hk
    exact ⟨⟨fun q => absurd (show false = true from q) (by decide), s.1.2⟩, SKm_h P s.2 hk⟩
  | (true, x) :: P, s, hk => by
    rw [nbT_t] at hk
    refine ⟨⟨fun q => ?_, fun q => absurd (show true = false from q) (by decide)⟩, SKm_h P s.2 (by omega)⟩
    exact ⟨(upd_n _ _ (by omega)).trans (s.1.1 q).1, (s.1.1 q).2⟩
theorem SKm_t {g : Nat → Int64} {h : Nat → Int32} {v : Int32} {P : VTs} (s : SKm g h P) (hv : v = 0 ∨ v = 1) : SKm g (upd h (nbT P) v) ((true, v) :: P) := ⟨⟨fun _ => ⟨upd_s _ _ _, hv⟩, fun q => absurd (show true = false from q) (by decide)⟩, SKm_h P s (Nat.le_refl _)⟩
theorem SKm_f {g : Nat → Int64} {h : Nat → Int32} {v : Int32} {y : Int64} {P : VTs} (s : SKm g h P) (hv : vb9 v) (e : y = v.toInt64) : SKm (vp_updL g (nbF P) y) h ((false, v) :: P) := ⟨⟨fun q => absurd (show false = true from q) (by decide), fun _ => ⟨by rw [vL_s, e], hv⟩⟩, SKm_g P s (Nat.le_refl _)⟩
theorem mp1 {b : Bool} {T : List Bool} : ∀ {P : VTs}, P.map Prod.fst = b :: T → ∃ (v : Int32) (P' : VTs), P = (b, v) :: P' ∧ P'.map Prod.fst = T
  | [], h => by simp at h
  | (b', v) :: P, h => by
    have h1 : b' :: P.map Prod.fst = b :: T := h
    obtain ⟨e1, e2⟩ := List.cons.inj h1
    exact ⟨v, P, by rw [e1], e2⟩
theorem eTr_i {x : Int32} {E : List Int32} {S R : List Bool} (h : eTr (x :: E) S = some R) : ∃ T, eTs x S = some T ∧ eTr E T = some R := by
  have h' : (match eTs x S with | none => none | some R => eTr E R) = some R := h
  cases q : eTs x S with
  | none => rw [q] at h'; exact absurd h' (by simp)
  | some T => rw [q] at h'; exact ⟨T, by first | exact q | rfl, h'⟩
theorem i32_k {x y : Int32} {k : Int} (h : x.toInt = k) (hy : y.toInt = k) : x = y := Int32.toInt_inj.mp (h.trans hy.symm)
theorem eTs_inv {x : Int32} {S R : List Bool} (h : eTs x S = some R) : ((((0 ≤ x.toInt ∧ x.toInt ≤ 9999) ∨ (-17 ≤ x.toInt ∧ x.toInt ≤ -12)) ∧ S.length ≤ 38 ∧ R = false :: S) ∨ (x = -11 ∧ ∃ T, S = true :: T ∧ R = true :: T)) ∨ ((x = -35 ∧ ∃ T, S = false :: T ∧ R = false :: T) ∨ ((x = -9 ∨ x = -10) ∧ ∃ T, S = true :: true :: T ∧ R = true :: T)) ∨ ((-24 ≤ x.toInt ∧ x.toInt ≤ -19) ∧ ∃ T, S = false :: false :: T ∧ R = true :: T) ∨ ((-28 ≤ x.toInt ∧ x.toInt ≤ -25) ∧ ∃ T, S = false :: false :: T ∧ R = false :: T) := by
  unfold eTs at h
  by_cases a : (0 ≤ x.toInt ∧ x.toInt ≤ 9999) ∨ (-17 ≤ x.toInt ∧ x.toInt ≤ -12)
  · rw [if_pos a] at h
    by_cases l : S.length ≤ 38
    · rw [if_pos l] at h
      exact Or.inl (Or.inl ⟨a, l, (Option.some.inj h).symm⟩)
    · rw [if_neg l] at h
      cases h
  · rw [if_neg a] at h
    by_cases b : x.toInt = -11
    · rw [if_pos b] at h
      match S, h with
      | true :: T, h => exact Or.inl (Or.inr ⟨i32_k b (by decide), T, rfl, (Option.some.inj h).symm⟩)
      | false :: T, h => exact absurd h (by simp)
      | [], h => exact absurd h (by simp)
    · rw [if_neg b] at h
      by_cases c : x.toInt = -35
      · rw [if_pos c] at h
        match S, h with
        | false :: T, h => exact Or.inr (Or.inl (Or.inl ⟨i32_k c (by decide), T, rfl, (Option.some.inj h).symm⟩))
        | true :: T, h => exact absurd h (by simp)
        | [], h => exact absurd h (by simp)
      · rw [if_neg c] at h
        by_cases d : x.toInt = -9 ∨ x.toInt = -10
        · rw [if_pos d] at h
          have d2 : x = -9 ∨ x = -10 := by
            rcases d with d | d
            · exact Or.inl (i32_k d (by decide))
            · exact Or.inr (i32_k d (by decide))
          match S, h with
          | true :: true :: T, h => exact Or.inr (Or.inl (Or.inr ⟨d2, T, rfl, (Option.some.inj h).symm⟩))
          | true :: false :: T, h => exact absurd h (by simp)
          | [true], h => exact absurd h (by simp)
          | false :: T, h => exact absurd h (by simp)
          | [], h => exact absurd h (by simp)
        · rw [if_neg d] at h
          by_cases e : -24 ≤ x.toInt ∧ x.toInt ≤ -19
          · rw [if_pos e] at h
            match S, h with
            | false :: false :: T, h => exact Or.inr (Or.inr (Or.inl ⟨e, T, rfl, (Option.some.inj h).symm⟩))
            | false :: true :: T, h => exact absurd h (by simp)
            | [false], h => exact absurd h (by simp)
            | true :: T, h => exact absurd h (by simp)
            | [], h => exact absurd h (by simp)
          · rw [if_neg e] at h
            by_cases g : -28 ≤ x.toInt ∧ x.toInt ≤ -25
            · rw [if_pos g] at h
              match S, h with
              | false :: false :: T, h => exact Or.inr (Or.inr (Or.inr ⟨g, T, rfl, (Option.some.inj h).symm⟩))
              | false :: true :: T, h => exact absurd h (by simp)
              | [false], h => exact absurd h (by simp)
              | true :: T, h => exact absurd h (by simp)
              | [], h => exact absurd h (by simp)
            · rw [if_neg g] at h
              cases h
theorem ngx {x : Int32} (h : -2000000000 ≤ x.toInt ∧ x.toInt ≤ 2000000000) : (-x).toInt = -x.toInt := by
  have e : (0 : Int32) - x = -x := by grind
  have := i_sub (x := (0 : Int32)) (y := x) (show (0 : Int32).toInt = 0 by decide) rfl (by omega) (by omega)
  rw [e] at this
  omega
theorem vb_ng {x : Int32} (h : vb9 x) : vb9 (-x) := by
  have h' : -1000000000 ≤ x.toInt ∧ x.toInt ≤ 1000000000 := h
  show -1000000000 ≤ (-x).toInt ∧ (-x).toInt ≤ 1000000000
  rw [ngx (by omega)]
  omega
theorem ng64 {x : Int32} (h : vb9 x) : -(x.toInt64) = (-x).toInt64 := by
  have h' : -1000000000 ≤ x.toInt ∧ x.toInt ≤ 1000000000 := h
  have e : (0 : Int64) - x.toInt64 = -x.toInt64 := by grind
  have k0 : (0 : Int64).toInt = 0 := by decide
  refine Int64.toInt_inj.mp ?_
  rw [← e, Int64.toInt_sub, t64, t64, k0, ngx (by omega)]
  rw [Int.bmod_eq_of_le (by omega) (by omega)]
  omega
theorem en_nm {x : Int32} (h : -17 ≤ x.toInt ∧ x.toInt ≤ -12) : en x = (1, -12 - x) := by
  have : x = -12 ∨ x = -13 ∨ x = -14 ∨ x = -15 ∨ x = -16 ∨ x = -17 := by
    by_cases a : x.toInt = -12
    · exact Or.inl (i32_k a (by decide))
    by_cases b : x.toInt = -13
    · exact Or.inr (Or.inl (i32_k b (by decide)))
    by_cases c : x.toInt = -14
    · exact Or.inr (Or.inr (Or.inl (i32_k c (by decide))))
    by_cases d : x.toInt = -15
    · exact Or.inr (Or.inr (Or.inr (Or.inl (i32_k d (by decide)))))
    by_cases e : x.toInt = -16
    · exact Or.inr (Or.inr (Or.inr (Or.inr (Or.inl (i32_k e (by decide))))))
    · exact Or.inr (Or.inr (Or.inr (Or.inr (Or.inr (i32_k (show x.toInt = -17 by omega) (by decide))))))
  rcases this with e | e | e | e | e | e <;> subst e <;> decide
theorem en_cmp {x : Int32} (h : -24 ≤ x.toInt ∧ x.toInt ≤ -19) : ∃ c o : Int32, -x = c ∧ en x = (o, 0) ∧ ((10 ≤ o ∧ o < 20 ∧ 17 < c ∧ c ≠ 35) ∧ ((c = 19 ∧ o = 10) ∨ (c = 20 ∧ o = 11) ∨ (c = 21 ∧ o = 12) ∨ (c = 22 ∧ o = 13) ∨ (c = 23 ∧ o = 14) ∨ (c = 24 ∧ o = 15))) := by
  by_cases a : x.toInt = -19
  · have e : x = -19 := i32_k a (by decide)
    subst e
    exact ⟨19, 10, by decide, by decide, by decide, by decide⟩
  by_cases b : x.toInt = -20
  · have e : x = -20 := i32_k b (by decide)
    subst e
    exact ⟨20, 11, by decide, by decide, by decide, by decide⟩
  by_cases c : x.toInt = -21
  · have e : x = -21 := i32_k c (by decide)
    subst e
    exact ⟨21, 12, by decide, by decide, by decide, by decide⟩
  by_cases d : x.toInt = -22
  · have e : x = -22 := i32_k d (by decide)
    subst e
    exact ⟨22, 13, by decide, by decide, by decide, by decide⟩
  by_cases f : x.toInt = -23
  · have e : x = -23 := i32_k f (by decide)
    subst e
    exact ⟨23, 14, by decide, by decide, by decide, by decide⟩
  · have e : x = -24 := i32_k (show x.toInt = -24 by omega) (by decide)
    subst e
    exact ⟨24, 15, by decide, by decide, by decide, by decide⟩
theorem en_ari {x : Int32} (h : -28 ≤ x.toInt ∧ x.toInt ≤ -25) : ∃ c o : Int32, -x = c ∧ en x = (o, 0) ∧ ((2 < o ∧ o < 10 ∧ 17 < c ∧ c ≠ 35) ∧ ((c = 25 ∧ o = 3) ∨ (c = 26 ∧ o = 4) ∨ (c = 27 ∧ o = 5) ∨ (c = 28 ∧ o = 6))) := by
  by_cases a : x.toInt = -25
  · have e : x = -25 := i32_k a (by decide)
    subst e
    exact ⟨25, 3, by decide, by decide, by decide, by decide⟩
  by_cases b : x.toInt = -26
  · have e : x = -26 := i32_k b (by decide)
    subst e
    exact ⟨26, 4, by decide, by decide, by decide, by decide⟩
  by_cases c : x.toInt = -27
  · have e : x = -27 := i32_k c (by decide)
    subst e
    exact ⟨27, 5, by decide, by decide, by decide, by decide⟩
  · have e : x = -28 := i32_k (show x.toInt = -28 by omega) (by decide)
    subst e
    exact ⟨28, 6, by decide, by decide, by decide, by decide⟩
theorem jn_or {a b : Int32} (ha : a = 0 ∨ a = 1) (hb : b = 0 ∨ b = 1) : g_X8_join 9 a b = (if a = 0 then (if b = 0 then 0 else 1) else 1) := by
  rcases ha with e | e <;> rcases hb with e2 | e2 <;> subst e e2 <;> decide
theorem jn_and {a b : Int32} (ha : a = 0 ∨ a = 1) (hb : b = 0 ∨ b = 1) : g_X8_join 10 a b = (if a = 0 then 0 else (if b = 0 then 0 else 1)) := by
  rcases ha with e | e <;> rcases hb with e2 | e2 <;> subst e e2 <;> decide
theorem dn1 {x : Int32} {k : Nat} (h : x.toInt = ((k + 1 + 1 : Nat) : Int)) (hk : k ≤ 39) : (x + Int32.ofInt (-1)).toInt = ((k + 1 : Nat) : Int) ∧ (x + Int32.ofInt (-1) - 1).toInt = (k : Int) := by
  have e : (x + Int32.ofInt (-1)).toInt = ((k + 1 : Nat) : Int) := (dn_i (by omega) (by omega)).trans (by omega)
  exact ⟨e, (i_sub e (show (1 : Int32).toInt = 1 by decide) (by omega) (by omega)).trans (by omega)⟩
theorem dn2 {x : Int32} {k : Nat} (h : x.toInt = ((k + 1 + 1 : Nat) : Int)) (hk : k ≤ 39) : (x + Int32.ofInt (-2)).toInt = (k : Int) := (i_add h (show (Int32.ofInt (-2)).toInt = -2 by decide) (by omega) (by omega)).trans (by omega)
theorem tk_j {c : Int32} (h : 17 < c) (h2 : c ≠ 35) : (1 ≤ c.toInt ∧ c.toInt ≤ 10) ∨ (17 < c.toInt ∧ c.toInt ≠ 35) := by
  have k17 : (17 : Int32).toInt = 17 := by decide
  have h' := Int32.lt_iff_toInt_lt.mp h
  exact Or.inr ⟨by omega, fun q => h2 (i32_k q (by decide))⟩
theorem wc_push {w c k n : Nat} {a0 x1 x2 x : Int32} {f : Nat → Int32} (hq : ¬ tR 258 w (a0 + 1).toNatClampNeg ≤ x2) (hx2 : x2.toInt = (c : Int)) (hc : tR 259 w c = x) (h0 : 0 ≤ x.toInt ∧ x.toInt ≤ 9999) (hx1 : (x1 + Int32.ofInt 1).toInt = (k : Int)) (hk : k ≤ 39) : g_X8_work_102_103_L11 w a0 I J rj rq tR (n + 1) x1 x2 (va_up ri 103 f) = g_X8_work_102_103_L11 w a0 I J rj rq tR n (x1 + Int32.ofInt 1) (x2 + Int32.ofInt 1) (va_up ri 103 (upd f k x)) := by
  have k0 : (0 : Int32).toInt = 0 := by decide
  have k12 : (12 : Int32).toInt = 12 := by decide
  have k17 : (17 : Int32).toInt = 17 := by decide
  have k40 : (40 : Int32).toInt = 40 := by decide
  have r102 : va_up ri 103 f 102 = ri 102 := va_up_ne _ _ (by decide)
  rw [g_X8_work_102_103_L11_e]
  simp only [↓ap1_n, va_up_self, r102]
  rw [if_neg hq, at_n hx2, hc]
  have nxv := ngx (x := x) (by omega)
  rw [if_pos (show -x ≤ 0 from Int32.le_iff_toInt_le.mpr (by rw [nxv, k0]; omega)), if_pos (show x1 + Int32.ofInt 1 < 40 from Int32.lt_iff_toInt_lt.mpr (by rw [hx1, k40]; omega))]
  simp only [g_X8_work_102_103_K90, g_X8_work_102_103_K172, ↓ap1_n, va_up_self, up_up]
  rw [at_n hx1]
theorem wc_name {w c k n : Nat} {a0 x1 x2 x : Int32} {f : Nat → Int32} (hq : ¬ tR 258 w (a0 + 1).toNatClampNeg ≤ x2) (hx2 : x2.toInt = (c : Int)) (hc : tR 259 w c = x) (h0 : -17 ≤ x.toInt ∧ x.toInt ≤ -12) (hx1 : (x1 + Int32.ofInt 1).toInt = (k : Int)) (hk : k ≤ 39) {j : Nat} (hj : -x.toInt - 12 = (j : Int)) {v : Int32} (hv : ri 102 j = v) : g_X8_work_102_103_L11 w a0 I J rj rq tR (n + 1) x1 x2 (va_up ri 103 f) = g_X8_work_102_103_L11 w a0 I J rj rq tR n (x1 + Int32.ofInt 1) (x2 + Int32.ofInt 1) (va_up ri 103 (upd f k v)) := by
  have k0 : (0 : Int32).toInt = 0 := by decide
  have k12 : (12 : Int32).toInt = 12 := by decide
  have k17 : (17 : Int32).toInt = 17 := by decide
  have k40 : (40 : Int32).toInt = 40 := by decide
  have r102 : va_up ri 103 f 102 = ri 102 := va_up_ne _ _ (by decide)
  rw [g_X8_work_102_103_L11_e]
  simp only [↓ap1_n, va_up_self, r102]
  rw [if_neg hq, at_n hx2, hc]
  obtain ⟨z, ez, hz⟩ : ∃ z : Int32, -x = z ∧ z.toInt = -x.toInt := ⟨_, rfl, ngx (by omega)⟩
  have n1 : ¬ z ≤ 0 := fun q => by
    have := Int32.le_iff_toInt_le.mp q
    omega
  have n2 : ¬ z < 12 := fun q => by
    have := Int32.lt_iff_toInt_lt.mp q
    omega
  have n3 : ¬ 17 < z := fun q => by
    have := Int32.lt_iff_toInt_lt.mp q
    omega
  have j1 : (z - 12).toNatClampNeg = j := at_n ((i_sub hz k12 (by omega) (by omega)).trans hj)
  rw [ez, if_neg n1, if_neg n2, if_neg n3, if_pos (show x1 + Int32.ofInt 1 < 40 from Int32.lt_iff_toInt_lt.mpr (by rw [hx1, k40]; omega)), j1, hv]
  simp only [g_X8_work_102_103_K90_2, g_X8_work_102_103_K172, ↓ap1_n, va_up_self, up_up]
  rw [at_n hx1]
theorem wc_not {w c k n : Nat} {a0 x1 x2 x : Int32} {f : Nat → Int32} (hq : ¬ tR 258 w (a0 + 1).toNatClampNeg ≤ x2) (hx2 : x2.toInt = (c : Int)) (hc : tR 259 w c = x) (h0 : -x = 11) (hx1 : x1.toInt = (k : Int)) : g_X8_work_102_103_L11 w a0 I J rj rq tR (n + 1) x1 x2 (va_up ri 103 f) = g_X8_work_102_103_L11 w a0 I J rj rq tR n x1 (x2 + Int32.ofInt 1) (va_up ri 103 (upd f k (1 - f k))) := by
  have k0 : (0 : Int32).toInt = 0 := by decide
  have k12 : (12 : Int32).toInt = 12 := by decide
  have k17 : (17 : Int32).toInt = 17 := by decide
  have k40 : (40 : Int32).toInt = 40 := by decide
  have r102 : va_up ri 103 f 102 = ri 102 := va_up_ne _ _ (by decide)
  rw [g_X8_work_102_103_L11_e]
  simp only [↓ap1_n, va_up_self, r102]
  rw [if_neg hq, at_n hx2, hc]
  rw [h0, if_neg (show ¬ (11 : Int32) ≤ 0 by decide), if_pos (show (11 : Int32) < 12 by decide), g_X8_work_102_103_K94_e, if_pos (show (11 : Int32) = 11 from rfl), g_X8_work_102_103_K108_e, if_pos (show 0 ≤ x1 from Int32.le_iff_toInt_le.mpr (by rw [k0]; omega)), if_pos (show (11 : Int32) = 11 from rfl)]
  simp only [g_X8_work_102_103_K139, g_X8_work_102_103_K172, ↓ap1_n, va_up_self, up_up]
  rw [at_n hx1]
theorem wc_neg {w c k n : Nat} {a0 x1 x2 x : Int32} {f : Nat → Int32} (hq : ¬ tR 258 w (a0 + 1).toNatClampNeg ≤ x2) (hx2 : x2.toInt = (c : Int)) (hc : tR 259 w c = x) (h0 : -x = 35) (hx1 : x1.toInt = (k : Int)) : g_X8_work_102_103_L11 w a0 I J rj rq tR (n + 1) x1 x2 (va_up ri 103 f) = g_X8_work_102_103_L11 w a0 I J rj rq tR n x1 (x2 + Int32.ofInt 1) (va_up ri 103 (upd f k (-f k))) := by
  have k0 : (0 : Int32).toInt = 0 := by decide
  have k12 : (12 : Int32).toInt = 12 := by decide
  have k17 : (17 : Int32).toInt = 17 := by decide
  have k40 : (40 : Int32).toInt = 40 := by decide
  have r102 : va_up ri 103 f 102 = ri 102 := va_up_ne _ _ (by decide)
  rw [g_X8_work_102_103_L11_e]
  simp only [↓ap1_n, va_up_self, r102]
  rw [if_neg hq, at_n hx2, hc]
  rw [h0, if_neg (show ¬ (35 : Int32) ≤ 0 by decide), if_neg (show ¬ (35 : Int32) < 12 by decide), if_pos (show (17 : Int32) < 35 by decide), g_X8_work_102_103_K94_e, if_neg (show ¬ (35 : Int32) = 11 by decide), if_pos (show (35 : Int32) = 35 from rfl), g_X8_work_102_103_K108_e, if_pos (show 0 ≤ x1 from Int32.le_iff_toInt_le.mpr (by rw [k0]; omega)), if_neg (show ¬ (35 : Int32) = 11 by decide)]
  simp only [g_X8_work_102_103_K139, g_X8_work_102_103_K172, ↓ap1_n, va_up_self, up_up]
  rw [at_n hx1]
theorem wc_join {w c k n : Nat} {a0 x1 x2 x cc x4 : Int32} {f : Nat → Int32} (hq : ¬ tR 258 w (a0 + 1).toNatClampNeg ≤ x2) (hx2 : x2.toInt = (c : Int)) (hc : tR 259 w c = x) (h0 : -x = cc) (hcc : (1 ≤ cc.toInt ∧ cc.toInt ≤ 10) ∨ (17 < cc.toInt ∧ cc.toInt ≠ 35)) (e4 : x1 + Int32.ofInt (-1) = x4) (h4 : x4.toInt = (k : Int)) (hk : k ≤ 39) : g_X8_work_102_103_L11 w a0 I J rj rq tR (n + 1) x1 x2 (va_up ri 103 f) = g_X8_work_102_103_L11 w a0 I J rj rq tR n x4 (x2 + Int32.ofInt 1) (va_up ri 103 (upd f k (g_X8_join cc (f k) (f (k + 1))))) := by
  have k0 : (0 : Int32).toInt = 0 := by decide
  have k12 : (12 : Int32).toInt = 12 := by decide
  have k17 : (17 : Int32).toInt = 17 := by decide
  have k40 : (40 : Int32).toInt = 40 := by decide
  have r102 : va_up ri 103 f 102 = ri 102 := va_up_ne _ _ (by decide)
  rw [g_X8_work_102_103_L11_e]
  simp only [↓ap1_n, va_up_self, r102]
  rw [if_neg hq, at_n hx2, hc]
  have n1 : ¬ cc ≤ 0 := fun q => by
    have := Int32.le_iff_toInt_le.mp q
    omega
  have n11 : ¬ cc = 11 := fun q => by
    have k11 : (11 : Int32).toInt = 11 := by decide
    rw [q] at hcc
    omega
  have n35 : ¬ cc = 35 := fun q => by
    have k35 : (35 : Int32).toInt = 35 := by decide
    rw [q] at hcc
    omega
  have fin : g_X8_work_102_103_K94 I J rj rq x1 x2 (va_up ri 103 f) (g_X8_work_102_103_L11 w a0 I J rj rq tR n) cc = g_X8_work_102_103_L11 w a0 I J rj rq tR n x4 (x2 + Int32.ofInt 1) (va_up ri 103 (upd f k (g_X8_join cc (f k) (f (k + 1))))) := by
    rw [g_X8_work_102_103_K94_e, if_neg n11, if_neg n35]
    simp only [g_X8_work_102_103_K172, ↓ap1_n, va_up_self, up_up, e4]
    rw [if_pos (show 0 ≤ x4 from Int32.le_iff_toInt_le.mpr (by rw [k0]; omega)), at_n h4, at_n (upN h4 (by omega))]
  rw [h0, if_neg n1]
  by_cases c12 : cc < 12
  · rw [if_pos c12]
    exact fin
  · have c12' : ¬ cc.toInt < 12 := fun q => c12 (Int32.lt_iff_toInt_lt.mpr (by rw [k12]; exact q))
    rw [if_neg c12, if_pos (show 17 < cc from Int32.lt_iff_toInt_lt.mpr (by rw [k17]; omega))]
    exact fin
theorem so_ps {t d : Nat} {t0 y3 : Int32} (ht : t0.toInt = (t : Int)) (h9 : t ≤ 10) (hy3 : y3.toInt = (d : Int)) (hd : d ≤ 300) : (3720 + 900 * t0 + 250 + 2 * y3).toNatClampNeg = 3720 + 900 * t + 250 + 2 * d ∧ (3720 + 900 * t0 + 250 + 2 * y3 + 1).toNatClampNeg = 3720 + 900 * t + 250 + 2 * d + 1 := by
  have m1 := i_mul (show (900 : Int32).toInt = 900 by decide) ht (by omega) (by omega)
  have m2 := i_add (show (3720 : Int32).toInt = 3720 by decide) m1 (by omega) (by omega)
  have m3 := i_add m2 (show (250 : Int32).toInt = 250 by decide) (by omega) (by omega)
  have m4 := i_mul (show (2 : Int32).toInt = 2 by decide) hy3 (by omega) (by omega)
  have m5 := i_add m3 m4 (by omega) (by omega)
  have m6 := i_add m5 (show (1 : Int32).toInt = 1 by decide) (by omega) (by omega)
  exact ⟨at_n (m5.trans (by omega)), at_n (m6.trans (by omega))⟩
theorem ws_val {t d k m : Nat} {t0 a1 a2 a3 a4 y1 y2 y3 v : Int32} {h : Nat → Int32} {g : Nat → Int64} (ht : t0.toInt = (t : Int)) (h9 : t ≤ 10) (hy3 : y3.toInt = (d : Int)) (hd : d ≤ 300) (hq : ¬ si 384 (a1 + 3).toNatClampNeg ≤ y3) (ho : si 384 (3720 + 900 * t + 250 + 2 * d) = 0) (hv : si 384 (3720 + 900 * t + 250 + 2 * d + 1) = v) (h1 : y1.toInt = (k : Int)) : g_X12_isSo_L16 t0 a1 a2 a3 a4 U V sq (m + 1) y1 y2 y3 (va_up si 405 h) (va_up sj 404 g) = g_X12_isSo_L16 t0 a1 a2 a3 a4 U V sq m (y1 + Int32.ofInt 1) y2 (y3 + Int32.ofInt 1) (va_up si 405 h) (va_up sj 404 (vp_updL g k v.toInt64)) := by
  have k0 : (0 : Int32).toInt = 0 := by decide
  have k1 : (1 : Int32).toInt = 1 := by decide
  have s384 : va_up si 405 h 384 = si 384 := va_up_ne _ _ (by decide)
  obtain ⟨p1, p2⟩ := so_ps ht h9 hy3 hd
  rw [g_X12_isSo_L16_e]
  simp only [↓ap1_n, va_up_self, s384, p1, p2]
  rw [if_neg hq, ho, hv]
  rw [if_neg (show ¬ (1 : Int32) < 0 by decide), if_pos (show (0 : Int32) = 0 from rfl)]
  simp only [g_X12_isSo_K116, ↓ap1_n, va_up_self, up_up]
  rw [at_n h1]
theorem ws_nam {t d k m : Nat} {t0 a1 a2 a3 a4 y1 y2 y3 v : Int32} {h : Nat → Int32} {g : Nat → Int64} (ht : t0.toInt = (t : Int)) (h9 : t ≤ 10) (hy3 : y3.toInt = (d : Int)) (hd : d ≤ 300) (hq : ¬ si 384 (a1 + 3).toNatClampNeg ≤ y3) (ho : si 384 (3720 + 900 * t + 250 + 2 * d) = 1) (hv : si 384 (3720 + 900 * t + 250 + 2 * d + 1) = v) (h1 : y1.toInt = (k : Int)) {u : Int32} (hn : g_X12_named a2 v a3 a4 U V (va_up si 405 h) (va_up sj 404 g) sq = (u, U, V, va_up si 405 h, va_up sj 404 g, sq)) : g_X12_isSo_L16 t0 a1 a2 a3 a4 U V sq (m + 1) y1 y2 y3 (va_up si 405 h) (va_up sj 404 g) = g_X12_isSo_L16 t0 a1 a2 a3 a4 U V sq m (y1 + Int32.ofInt 1) y2 (y3 + Int32.ofInt 1) (va_up si 405 h) (va_up sj 404 (vp_updL g k u.toInt64)) := by
  have k0 : (0 : Int32).toInt = 0 := by decide
  have k1 : (1 : Int32).toInt = 1 := by decide
  have s384 : va_up si 405 h 384 = si 384 := va_up_ne _ _ (by decide)
  obtain ⟨p1, p2⟩ := so_ps ht h9 hy3 hd
  rw [g_X12_isSo_L16_e]
  simp only [↓ap1_n, va_up_self, s384, p1, p2]
  rw [if_neg hq, ho, hv]
  rw [if_neg (show ¬ (1 : Int32) < 1 by decide), if_neg (show ¬ (1 : Int32) = 0 by decide), bn_n hn]
  simp only [g_X12_isSo_K116, ↓ap1_n, va_up_self, up_up]
  rw [at_n h1]
theorem ws_neg {t d k m : Nat} {t0 a1 a2 a3 a4 y1 y2 y3 : Int32} {h : Nat → Int32} {g : Nat → Int64} (ht : t0.toInt = (t : Int)) (h9 : t ≤ 10) (hy3 : y3.toInt = (d : Int)) (hd : d ≤ 300) (hq : ¬ si 384 (a1 + 3).toNatClampNeg ≤ y3) (ho : si 384 (3720 + 900 * t + 250 + 2 * d) = 2) (h1 : (y1 - 1).toInt = (k : Int)) : g_X12_isSo_L16 t0 a1 a2 a3 a4 U V sq (m + 1) y1 y2 y3 (va_up si 405 h) (va_up sj 404 g) = g_X12_isSo_L16 t0 a1 a2 a3 a4 U V sq m y1 y2 (y3 + Int32.ofInt 1) (va_up si 405 h) (va_up sj 404 (vp_updL g k (-g k))) := by
  have k0 : (0 : Int32).toInt = 0 := by decide
  have k1 : (1 : Int32).toInt = 1 := by decide
  have s384 : va_up si 405 h 384 = si 384 := va_up_ne _ _ (by decide)
  obtain ⟨p1, p2⟩ := so_ps ht h9 hy3 hd
  rw [g_X12_isSo_L16_e]
  simp only [↓ap1_n, va_up_self, s384, p1, p2]
  rw [if_neg hq, ho]
  rw [if_pos (show (1 : Int32) < 2 by decide), if_pos (show (2 : Int32) = 2 from rfl), at_n h1, up_up]
theorem ws_not {t d k m : Nat} {t0 a1 a2 a3 a4 y1 y2 y3 : Int32} {h : Nat → Int32} {g : Nat → Int64} (ht : t0.toInt = (t : Int)) (h9 : t ≤ 10) (hy3 : y3.toInt = (d : Int)) (hd : d ≤ 300) (hq : ¬ si 384 (a1 + 3).toNatClampNeg ≤ y3) (ho : si 384 (3720 + 900 * t + 250 + 2 * d) = 20) (h1 : (y2 - 1).toInt = (k : Int)) : g_X12_isSo_L16 t0 a1 a2 a3 a4 U V sq (m + 1) y1 y2 y3 (va_up si 405 h) (va_up sj 404 g) = g_X12_isSo_L16 t0 a1 a2 a3 a4 U V sq m y1 y2 (y3 + Int32.ofInt 1) (va_up si 405 (upd h k (if h k = 0 then 1 else 0))) (va_up sj 404 g) := by
  have k0 : (0 : Int32).toInt = 0 := by decide
  have k1 : (1 : Int32).toInt = 1 := by decide
  have s384 : va_up si 405 h 384 = si 384 := va_up_ne _ _ (by decide)
  obtain ⟨p1, p2⟩ := so_ps ht h9 hy3 hd
  rw [g_X12_isSo_L16_e]
  simp only [↓ap1_n, va_up_self, s384, p1, p2]
  rw [if_neg hq, ho]
  rw [if_pos (show (1 : Int32) < 20 by decide), if_neg (show ¬ (20 : Int32) = 2 by decide), if_pos (show (10 : Int32) ≤ 20 by decide), if_pos (show (20 : Int32) ≤ 20 by decide), if_pos (show (20 : Int32) = 20 from rfl)]
  simp only [g_X12_isSo_K270, g_X12_isSo_K270_2, ↓ap1_n, va_up_self, up_up]
  rw [at_n h1]
  by_cases c : h k = 0
  · rw [if_pos c, if_pos c]
  · rw [if_neg c, if_neg c]
theorem ws_or {t d k m : Nat} {t0 a1 a2 a3 a4 y1 y2 y3 v : Int32} {h : Nat → Int32} {g : Nat → Int64} (ht : t0.toInt = (t : Int)) (h9 : t ≤ 10) (hy3 : y3.toInt = (d : Int)) (hd : d ≤ 300) (hq : ¬ si 384 (a1 + 3).toNatClampNeg ≤ y3) (ho : si 384 (3720 + 900 * t + 250 + 2 * d) = 22) (f4 : y2 + Int32.ofInt (-1) = v) (g4 : v.toInt = ((k + 1 : Nat) : Int)) (g5 : (v - 1).toInt = (k : Int)) : g_X12_isSo_L16 t0 a1 a2 a3 a4 U V sq (m + 1) y1 y2 y3 (va_up si 405 h) (va_up sj 404 g) = g_X12_isSo_L16 t0 a1 a2 a3 a4 U V sq m y1 v (y3 + Int32.ofInt 1) (va_up si 405 (upd h k (if h k = 0 then (if h (k + 1) = 0 then 0 else 1) else 1))) (va_up sj 404 g) := by
  have k0 : (0 : Int32).toInt = 0 := by decide
  have k1 : (1 : Int32).toInt = 1 := by decide
  have s384 : va_up si 405 h 384 = si 384 := va_up_ne _ _ (by decide)
  obtain ⟨p1, p2⟩ := so_ps ht h9 hy3 hd
  rw [g_X12_isSo_L16_e]
  simp only [↓ap1_n, va_up_self, s384, p1, p2]
  rw [if_neg hq, ho]
  rw [if_pos (show (1 : Int32) < 22 by decide), if_neg (show ¬ (22 : Int32) = 2 by decide), if_pos (show (10 : Int32) ≤ 22 by decide), if_pos (show (20 : Int32) ≤ 22 by decide), if_neg (show ¬ (22 : Int32) = 20 by decide), if_neg (show ¬ (22 : Int32) = 21 by decide)]
  simp only [g_X12_isSo_K349, g_X12_isSo_K349_2, g_X12_isSo_K344, ↓ap1_n, va_up_self, up_up, f4]
  rw [at_n g5, at_n g4]
  by_cases c : h k = 0
  · rw [if_pos c, if_pos c]
    by_cases c2 : h (k + 1) = 0
    · rw [if_pos c2, if_pos c2]
    · rw [if_neg c2, if_neg c2]
  · rw [if_neg c, if_neg c]
theorem ws_and {t d k m : Nat} {t0 a1 a2 a3 a4 y1 y2 y3 v : Int32} {h : Nat → Int32} {g : Nat → Int64} (ht : t0.toInt = (t : Int)) (h9 : t ≤ 10) (hy3 : y3.toInt = (d : Int)) (hd : d ≤ 300) (hq : ¬ si 384 (a1 + 3).toNatClampNeg ≤ y3) (ho : si 384 (3720 + 900 * t + 250 + 2 * d) = 21) (f4 : y2 + Int32.ofInt (-1) = v) (g4 : v.toInt = ((k + 1 : Nat) : Int)) (g5 : (v - 1).toInt = (k : Int)) : g_X12_isSo_L16 t0 a1 a2 a3 a4 U V sq (m + 1) y1 y2 y3 (va_up si 405 h) (va_up sj 404 g) = g_X12_isSo_L16 t0 a1 a2 a3 a4 U V sq m y1 v (y3 + Int32.ofInt 1) (va_up si 405 (upd h k (if h k = 0 then 0 else (if h (k + 1) = 0 then 0 else 1)))) (va_up sj 404 g) := by
  have k0 : (0 : Int32).toInt = 0 := by decide
  have k1 : (1 : Int32).toInt = 1 := by decide
  have s384 : va_up si 405 h 384 = si 384 := va_up_ne _ _ (by decide)
  obtain ⟨p1, p2⟩ := so_ps ht h9 hy3 hd
  rw [g_X12_isSo_L16_e]
  simp only [↓ap1_n, va_up_self, s384, p1, p2]
  rw [if_neg hq, ho]
  rw [if_pos (show (1 : Int32) < 21 by decide), if_neg (show ¬ (21 : Int32) = 2 by decide), if_pos (show (10 : Int32) ≤ 21 by decide), if_pos (show (20 : Int32) ≤ 21 by decide), if_neg (show ¬ (21 : Int32) = 20 by decide), if_pos (show (21 : Int32) = 21 from rfl)]
  simp only [g_X12_isSo_K349, g_X12_isSo_K349_2, g_X12_isSo_K318, ↓ap1_n, va_up_self, up_up, f4]
  rw [at_n g5, at_n g4]
  by_cases c : h k = 0
  · rw [if_pos c, if_pos c]
  · rw [if_neg c, if_neg c]
    by_cases c2 : h (k + 1) = 0
    · rw [if_pos c2, if_pos c2]
    · rw [if_neg c2, if_neg c2]
theorem ws_cmp {t d k m : Nat} {t0 a1 a2 a3 a4 y1 y2 y3 o v : Int32} {h : Nat → Int32} {g : Nat → Int64} (ht : t0.toInt = (t : Int)) (h9 : t ≤ 10) (hy3 : y3.toInt = (d : Int)) (hd : d ≤ 300) (hq : ¬ si 384 (a1 + 3).toNatClampNeg ≤ y3) (ho : si 384 (3720 + 900 * t + 250 + 2 * d) = o) (o1 : 10 ≤ o) (o2 : o < 20) (f4 : y1 + Int32.ofInt (-2) = v) (g4 : v.toInt = (k : Int)) (hk : k ≤ 300) {j : Nat} (h2 : y2.toInt = (j : Int)) : g_X12_isSo_L16 t0 a1 a2 a3 a4 U V sq (m + 1) y1 y2 y3 (va_up si 405 h) (va_up sj 404 g) = g_X12_isSo_L16 t0 a1 a2 a3 a4 U V sq m v (y2 + Int32.ofInt 1) (y3 + Int32.ofInt 1) (va_up si 405 (upd h j (g_X12_isAsked o (g k) (g (k + 1))))) (va_up sj 404 g) := by
  have k0 : (0 : Int32).toInt = 0 := by decide
  have k1 : (1 : Int32).toInt = 1 := by decide
  have s384 : va_up si 405 h 384 = si 384 := va_up_ne _ _ (by decide)
  obtain ⟨p1, p2⟩ := so_ps ht h9 hy3 hd
  rw [g_X12_isSo_L16_e]
  simp only [↓ap1_n, va_up_self, s384, p1, p2]
  rw [if_neg hq, ho]
  have o1' := Int32.le_iff_toInt_le.mp o1
  have o2' := Int32.lt_iff_toInt_lt.mp o2
  have k10 : (10 : Int32).toInt = 10 := by decide
  have k20 : (20 : Int32).toInt = 20 := by decide
  have k2 : (2 : Int32).toInt = 2 := by decide
  have n2 : ¬ o = 2 := fun q => by
    rw [q] at o1'
    omega
  have n20 : ¬ 20 ≤ o := fun q => by
    have := Int32.le_iff_toInt_le.mp q
    omega
  rw [if_pos (show 1 < o from Int32.lt_iff_toInt_lt.mpr (by rw [k1]; omega)), if_neg n2, if_pos o1, if_neg n20]
  simp only [f4, up_up]
  rw [at_n g4, at_n (upN g4 (by omega)), at_n h2]
theorem ws_ari {t d k m : Nat} {t0 a1 a2 a3 a4 y1 y2 y3 o v : Int32} {h : Nat → Int32} {g : Nat → Int64} (ht : t0.toInt = (t : Int)) (h9 : t ≤ 10) (hy3 : y3.toInt = (d : Int)) (hd : d ≤ 300) (hq : ¬ si 384 (a1 + 3).toNatClampNeg ≤ y3) (ho : si 384 (3720 + 900 * t + 250 + 2 * d) = o) (o1 : 2 < o) (o2 : o < 10) (f4 : y1 + Int32.ofInt (-1) = v) (g4 : v.toInt = ((k + 1 : Nat) : Int)) (g5 : (v - 1).toInt = (k : Int)) : g_X12_isSo_L16 t0 a1 a2 a3 a4 U V sq (m + 1) y1 y2 y3 (va_up si 405 h) (va_up sj 404 g) = g_X12_isSo_L16 t0 a1 a2 a3 a4 U V sq m v y2 (y3 + Int32.ofInt 1) (va_up si 405 h) (va_up sj 404 (vp_updL g k (g_X12_two o (g k) (g (k + 1))))) := by
  have k0 : (0 : Int32).toInt = 0 := by decide
  have k1 : (1 : Int32).toInt = 1 := by decide
  have s384 : va_up si 405 h 384 = si 384 := va_up_ne _ _ (by decide)
  obtain ⟨p1, p2⟩ := so_ps ht h9 hy3 hd
  rw [g_X12_isSo_L16_e]
  simp only [↓ap1_n, va_up_self, s384, p1, p2]
  rw [if_neg hq, ho]
  have o1' := Int32.lt_iff_toInt_lt.mp o1
  have o2' := Int32.lt_iff_toInt_lt.mp o2
  have k10 : (10 : Int32).toInt = 10 := by decide
  have k2 : (2 : Int32).toInt = 2 := by decide
  have n2 : ¬ o = 2 := fun q => by
    rw [q] at o1'
    omega
  have n10 : ¬ 10 ≤ o := fun q => by
    have := Int32.le_iff_toInt_le.mp q
    omega
  rw [if_pos (show 1 < o from Int32.lt_iff_toInt_lt.mpr (by rw [k1]; omega)), if_neg n2, if_neg n10]
  simp only [f4, up_up]
  rw [at_n g4, at_n g5]
set_option maxHeartbeats 4000000 in
/-- the code E of an EITHER from place c (class), d (reference) on, with what waits -/
theorem wk_sim {w t : Nat} {a0 a1 a2 a3 a4 t0 eC eM : Int32} {N : Nat → Int32} (ht : t0.toInt = (t : Int)) (h9 : t ≤ 10) (hC0 : tR 258 w (a0 + 1).toNatClampNeg = eC) (hM0 : si 384 (a1 + 3).toNatClampNeg = eM) (hN : ∀ j, j < 6 → ri 102 j = N j ∧ vb9 (N j)) (hN2 : ∀ (x : Int32) (j : Nat) (h : Nat → Int32) (g : Nat → Int64), x.toInt = (j : Int) → j < 6 → g_X12_named a2 x a3 a4 U V (va_up si 405 h) (va_up sj 404 g) sq = (N j, U, V, va_up si 405 h, va_up sj 404 g, sq)) : ∀ (E : List Int32) (n m c d : Nat) (x1 x2 y1 y2 y3 : Int32) (f h : Nat → Int32) (g : Nat → Int64) (P : VTs), E.length < n → E.length < m → (∀ i y, E[i]? = some y → tR 259 w (c + i) = y) → (∀ i y, E[i]? = some y → si 384 (3720 + 900 * t + 250 + 2 * (d + i)) = (en y).1 ∧ si 384 (3720 + 900 * t + 250 + 2 * (d + i) + 1) = (en y).2) → x2.toInt = (c : Int) → eC.toInt = ((c + E.length : Nat) : Int) → y3.toInt = (d : Int) → eM.toInt = ((d + E.length : Nat) : Int) → c + E.length ≤ 300 → d + E.length ≤ 300 → x1.toInt = (P.length : Int) - 1 → P.length ≤ 39 → y1.toInt = (nbF P : Int) → y2.toInt = (nbT P : Int) → SKc f P → SKm g h P → eTr E (P.map Prod.fst) = some [true] → ∃ (v : Int32) (f' h' : Nat → Int32) (g' : Nat → Int64), g_X8_work_102_103_L11 w a0 I J rj rq tR n x1 x2 (va_up ri 103 f) = (v, I, J, va_up ri 103 f', rj, rq) ∧ g_X12_isSo_L16 t0 a1 a2 a3 a4 U V sq m y1 y2 y3 (va_up si 405 h) (va_up sj 404 g) = (v, U, V, va_up si 405 h', va_up sj 404 g', sq) := by
  have k0 : (0 : Int32).toInt = 0 := by decide
  have k1 : (1 : Int32).toInt = 1 := by decide
  have k2 : (2 : Int32).toInt = 2 := by decide
  have k12 : (12 : Int32).toInt = 12 := by decide
  have k17 : (17 : Int32).toInt = 17 := by decide
  have k40 : (40 : Int32).toInt = 40 := by decide
  have z0 : (0 : Int32).toNatClampNeg = 0 := by decide
  have s384 : ∀ h : Nat → Int32, va_up si 405 h 384 = si 384 := fun h => va_up_ne _ _ (by decide)
  have r102 : ∀ f : Nat → Int32, va_up ri 103 f 102 = ri 102 := fun f => va_up_ne _ _ (by decide)
  intro E
  induction E with
  | nil =>
    intro n m c d x1 x2 y1 y2 y3 f h g P hn hm _ _ hx2 hC hy3 hM c3 d3 hx1 hP hy1 hy2 sc sm hT
    have hl : ([] : List Int32).length = 0 := rfl
    obtain ⟨n, rfl⟩ : ∃ k, n = k + 1 := ⟨n - 1, by omega⟩
    obtain ⟨m, rfl⟩ : ∃ k, m = k + 1 := ⟨m - 1, by omega⟩
    have hT' : some (P.map Prod.fst) = some [true] := hT
    obtain ⟨v, P', e, e'⟩ := mp1 (Option.some.inj hT')
    have e3 : P' = [] := by
      cases P' with
      | nil => rfl
      | cons a b => simp at e'
    rw [e3] at e
    rw [e] at hx1 sc sm
    have x0 : x1 = 0 := i32_k (k := 0) (by rw [hx1]; rfl) k0
    have c1 : f 0 = v := sc.1
    have m1 : h 0 = v := (sm.1.1 rfl).1
    rw [g_X8_work_102_103_L11_e, g_X12_isSo_L16_e]
    simp only [↓ap1_n, va_up_self, s384]
    rw [hC0, hM0, if_pos ((le_n hC hx2).mpr (by omega)), if_pos ((le_n hM hy3).mpr (by omega)), if_pos x0, x0, z0, c1, m1]
    exact ⟨v, f, h, g, rfl, rfl⟩
  | cons x E ih =>
    intro n m c d x1 x2 y1 y2 y3 f h g P hn hm hE hE2 hx2 hC hy3 hM c3 d3 hx1 hP hy1 hy2 sc sm hT
    have hl : (x :: E).length = E.length + 1 := rfl
    obtain ⟨n, rfl⟩ : ∃ k, n = k + 1 := ⟨n - 1, by omega⟩
    obtain ⟨m, rfl⟩ : ∃ k, m = k + 1 := ⟨m - 1, by omega⟩
    obtain ⟨T, t1, t2⟩ := eTr_i hT
    obtain ⟨o, v, he⟩ : ∃ o v : Int32, en x = (o, v) := ⟨_, _, rfl⟩
    have hc : tR 259 w c = x := by
      have := hE 0 x rfl
      rw [Nat.add_zero] at this
      exact this
    have hov := hE2 0 x rfl
    rw [Nat.add_zero, he] at hov
    have ho : si 384 (3720 + 900 * t + 250 + 2 * d) = o := hov.1
    have hv : si 384 (3720 + 900 * t + 250 + 2 * d + 1) = v := hov.2
    clear hov
    have lP : (P.map Prod.fst).length = P.length := List.length_map ..
    have nbl := nb_l P
    have nx2 : (x2 + Int32.ofInt 1).toInt = ((c + 1 : Nat) : Int) := up_i hx2 (by omega)
    have ny3 : (y3 + Int32.ofInt 1).toInt = ((d + 1 : Nat) : Int) := up_i hy3 (by omega)
    have go : ∀ (x1' y1' y2' : Int32) (f' h' : Nat → Int32) (g' : Nat → Int64) (P' : VTs), P'.map Prod.fst = T → x1'.toInt = (P'.length : Int) - 1 → P'.length ≤ 39 → y1'.toInt = (nbF P' : Int) → y2'.toInt = (nbT P' : Int) → SKc f' P' → SKm g' h' P' → ∃ (v : Int32) (f2 h2 : Nat → Int32) (g2 : Nat → Int64), g_X8_work_102_103_L11 w a0 I J rj rq tR n x1' (x2 + Int32.ofInt 1) (va_up ri 103 f') = (v, I, J, va_up ri 103 f2, rj, rq) ∧ g_X12_isSo_L16 t0 a1 a2 a3 a4 U V sq m y1' y2' (y3 + Int32.ofInt 1) (va_up si 405 h') (va_up sj 404 g') = (v, U, V, va_up si 405 h2, va_up sj 404 g2, sq) := fun x1' y1' y2' f' h' g' P' e1 e2 e3 e4 e5 e6 e7 => ih n m (c + 1) (d + 1) x1' _ y1' y2' _ f' h' g' P' (by omega) (by omega) (fun i y hy => by rw [show c + 1 + i = c + (i + 1) by omega]; exact hE (i + 1) y (by simpa using hy)) (fun i y hy => by rw [show d + 1 + i = d + (i + 1) by omega]; exact hE2 (i + 1) y (by simpa using hy)) nx2 (by rw [hC]; omega) ny3 (by rw [hM]; omega) (by omega) (by omega) e2 e3 e4 e5 e6 e7 (by rw [e1]; exact t2)
    clear ih hE hE2
    have q1 : ¬ tR 258 w (a0 + 1).toNatClampNeg ≤ x2 := fun q => by
      rw [hC0] at q
      have := (le_n hC hx2).mp q
      omega
    have q2 : ¬ si 384 (a1 + 3).toNatClampNeg ≤ y3 := fun q => by
      rw [hM0] at q
      have := (le_n hM hy3).mp q
      omega
    have d300 : d ≤ 300 := by omega
    clear hC0 hM0 hC hM
    rcases eTs_inv t1 with (⟨ha, l38, eT⟩ | ⟨ex, T', eS, eT⟩) | (⟨ex, T', eS, eT⟩ | ⟨ex, T', eS, eT⟩) | ⟨ex, T', eS, eT⟩ | ⟨ex, T', eS, eT⟩
    · -- a value
      have u1 : (x1 + Int32.ofInt 1).toInt = (P.length : Int) := by
        have := i_add hx1 (show (Int32.ofInt 1).toInt = 1 by decide) (by omega) (by omega)
        omega
      have w1 : (y1 + Int32.ofInt 1).toInt = ((nbF P + 1 : Nat) : Int) := up_i hy1 (by omega)
      have fin := fun (u : Int32) (hu : vb9 u) => go (x1 + Int32.ofInt 1) (y1 + Int32.ofInt 1) y2 (upd f P.length u) h (vp_updL g (nbF P) u.toInt64) ((false, u) :: P) (by rw [eT]; rfl) (by rw [u1]; show (P.length : Int) = ((P.length + 1 : Nat) : Int) - 1; omega) (by show P.length + 1 ≤ 39; omega) (by rw [w1, nbF_f]) (by rw [nbT_f]; exact hy2) (SKc_p sc) (SKm_f sm hu rfl)
      rcases ha with ha | ha
      · have he2 : en x = (0, x) := if_pos (Int32.le_iff_toInt_le.mpr (by rw [k0]; exact ha.1))
        obtain ⟨z1, z2⟩ := Prod.mk.inj (he.symm.trans he2)
        rw [wc_push q1 hx2 hc ha u1 (by omega), ws_val ht h9 hy3 d300 q2 (ho.trans z1) (hv.trans z2) hy1]
        exact fin x ⟨by omega, by omega⟩
      · have he2 := en_nm ha
        obtain ⟨z1, z2⟩ := Prod.mk.inj (he.symm.trans he2)
        obtain ⟨j, hj⟩ : ∃ j : Nat, -x.toInt - 12 = (j : Int) := ⟨(-x.toInt - 12).toNat, by omega⟩
        have j6 : j < 6 := by omega
        have j2 : (-12 - x).toInt = (j : Int) := (i_sub (show (-12 : Int32).toInt = -12 by decide) rfl (by omega) (by omega)).trans (by omega)
        rw [wc_name q1 hx2 hc ha u1 (by omega) hj (hN j j6).1, ws_nam ht h9 hy3 d300 q2 (ho.trans z1) (hv.trans z2) hy1 (hN2 _ j h g j2 j6)]
        exact fin (N j) (hN j j6).2
    · -- not
      obtain ⟨u, P', eP, eP'⟩ := mp1 eS
      subst eP
      have n11 : -x = 11 := by rw [ex]; decide
      have he2 : en x = (20, 0) := by rw [ex]; decide
      obtain ⟨z1, z2⟩ := Prod.mk.inj (he.symm.trans he2)
      have lq : ((true, u) :: P').length = P'.length + 1 := rfl
      have u1 : x1.toInt = (P'.length : Int) := by omega
      rw [nbT_t] at hy2 nbl
      have v1 : (y2 - 1).toInt = (nbT P' : Int) := by
        have := i_sub hy2 k1 (by omega) (by omega)
        omega
      have c1 : f P'.length = u := sc.1
      obtain ⟨s1, s2⟩ := sm.1.1 rfl
      have s1 : h (nbT P') = u := s1
      have s2 : u = 0 ∨ u = 1 := s2
      rw [wc_not q1 hx2 hc n11 u1, ws_not ht h9 hy3 d300 q2 (ho.trans z1) v1, c1, s1]
      have fin := fun (b : Int32) (hb : b = 0 ∨ b = 1) => go x1 y1 y2 (upd f P'.length b) (upd h (nbT P') b) g ((true, b) :: P') (by rw [eT, ← eP']; rfl) hx1 hP (by rw [nbF_t] at hy1 ⊢; exact hy1) (by rw [nbT_t]; exact hy2) (SKc_p sc.2) (SKm_t sm.2 hb)
      rcases s2 with s2 | s2
      · rw [if_pos s2, s2, show (1 : Int32) - 0 = 1 by decide]
        exact fin 1 (Or.inr rfl)
      · rw [if_neg (show ¬ u = 0 by rw [s2]; decide), s2, show (1 : Int32) - 1 = 0 by decide]
        exact fin 0 (Or.inl rfl)
    · -- - of one
      obtain ⟨u, P', eP, eP'⟩ := mp1 eS
      subst eP
      have n11 : -x = 35 := by rw [ex]; decide
      have he2 : en x = (2, 0) := by rw [ex]; decide
      obtain ⟨z1, z2⟩ := Prod.mk.inj (he.symm.trans he2)
      have lq : ((false, u) :: P').length = P'.length + 1 := rfl
      have u1 : x1.toInt = (P'.length : Int) := by omega
      rw [nbF_f] at hy1 nbl
      have v1 : (y1 - 1).toInt = (nbF P' : Int) := by
        have := i_sub hy1 k1 (by omega) (by omega)
        omega
      have c1 : f P'.length = u := sc.1
      obtain ⟨s1, s2⟩ := sm.1.2 rfl
      have s1 : g (nbF P') = u.toInt64 := s1
      have s2 : vb9 u := s2
      rw [wc_neg q1 hx2 hc n11 u1, ws_neg ht h9 hy3 d300 q2 (ho.trans z1) v1, c1, s1, ng64 s2]
      exact go _ _ _ _ _ _ ((false, -u) :: P') (by rw [eT, ← eP']; rfl) hx1 hP (by rw [nbF_f]; exact hy1) (by rw [nbT_f] at hy2 ⊢; exact hy2) (SKc_p sc.2) (SKm_f sm.2 (vb_ng s2) rfl)
    · -- or, and
      obtain ⟨b, P1, eP, eP1⟩ := mp1 eS
      subst eP
      obtain ⟨a, P', eP2, eP'⟩ := mp1 eP1
      subst eP2
      have lq : ((true, b) :: (true, a) :: P').length = P'.length + 2 := rfl
      have u1 : x1.toInt = (P'.length : Int) + 1 := by omega
      rw [nbT_t, nbT_t] at hy2 nbl
      rw [nbF_t, nbF_t] at hy1 nbl
      have l39 : P'.length ≤ 37 := by omega
      have c1 : f (P'.length + 1) = b := sc.1
      have c2 : f P'.length = a := sc.2.1
      obtain ⟨s1, s2⟩ := sm.1.1 rfl
      have s1 : h (nbT ((true, a) :: P')) = b := s1
      have s2 : b = 0 ∨ b = 1 := s2
      rw [nbT_t] at s1
      obtain ⟨s3, s4⟩ := sm.2.1.1 rfl
      have s3 : h (nbT P') = a := s3
      have s4 : a = 0 ∨ a = 1 := s4
      have tl : nbT P' ≤ 39 := by omega
      obtain ⟨x4, e4, h4⟩ : ∃ y, x1 + Int32.ofInt (-1) = y ∧ y.toInt = (P'.length : Int) := ⟨_, rfl, (dn_i (by omega) (by omega)).trans (by omega)⟩
      obtain ⟨w4, f4, g4, g5⟩ : ∃ y, y2 + Int32.ofInt (-1) = y ∧ y.toInt = ((nbT P' + 1 : Nat) : Int) ∧ (y - 1).toInt = (nbT P' : Int) := ⟨_, rfl, dn1 hy2 tl⟩
      have fin := fun (b : Int32) (hb : b = 0 ∨ b = 1) => go x4 y1 w4 (upd f P'.length b) (upd h (nbT P') b) g ((true, b) :: P') (by rw [eT, ← eP']; rfl) (by rw [h4]; show (P'.length : Int) = ((P'.length + 1 : Nat) : Int) - 1; omega) (by show P'.length + 1 ≤ 39; omega) (by rw [nbF_t]; exact hy1) (by rw [nbT_t]; exact g4) (SKc_p sc.2.2) (SKm_t sm.2.2 hb)
      rcases ex with ex | ex
      · have he2 : en x = (22, 0) := by rw [ex]; decide
        obtain ⟨z1, z2⟩ := Prod.mk.inj (he.symm.trans he2)
        rw [wc_join q1 hx2 hc (show -x = 9 by rw [ex]; decide) (by decide) e4 h4 (by omega), ws_or ht h9 hy3 d300 q2 (ho.trans z1) f4 g4 g5, c1, c2, s1, s3, jn_or s4 s2]
        refine fin _ ?_
        rcases s4 with s4 | s4
        · rw [if_pos s4]
          rcases s2 with s2 | s2
          · rw [if_pos s2]; exact Or.inl rfl
          · rw [if_neg (show ¬ b = 0 by rw [s2]; decide)]; exact Or.inr rfl
        · rw [if_neg (show ¬ a = 0 by rw [s4]; decide)]; exact Or.inr rfl
      · have he2 : en x = (21, 0) := by rw [ex]; decide
        obtain ⟨z1, z2⟩ := Prod.mk.inj (he.symm.trans he2)
        rw [wc_join q1 hx2 hc (show -x = 10 by rw [ex]; decide) (by decide) e4 h4 (by omega), ws_and ht h9 hy3 d300 q2 (ho.trans z1) f4 g4 g5, c1, c2, s1, s3, jn_and s4 s2]
        refine fin _ ?_
        rcases s4 with s4 | s4
        · rw [if_pos s4]; exact Or.inl rfl
        · rw [if_neg (show ¬ a = 0 by rw [s4]; decide)]
          rcases s2 with s2 | s2
          · rw [if_pos s2]; exact Or.inl rfl
          · rw [if_neg (show ¬ b = 0 by rw [s2]; decide)]; exact Or.inr rfl
    · -- one more than the other, or the like
      obtain ⟨b, P1, eP, eP1⟩ := mp1 eS
      subst eP
      obtain ⟨a, P', eP2, eP'⟩ := mp1 eP1
      subst eP2
      have lq : ((false, b) :: (false, a) :: P').length = P'.length + 2 := rfl
      have u1 : x1.toInt = (P'.length : Int) + 1 := by omega
      rw [nbT_f, nbT_f] at hy2 nbl
      rw [nbF_f, nbF_f] at hy1 nbl
      have l39 : P'.length ≤ 37 := by omega
      have fl : nbF P' ≤ 39 := by omega
      have c1 : f (P'.length + 1) = b := sc.1
      have c2 : f P'.length = a := sc.2.1
      have s1 : g (nbF ((false, a) :: P')) = b.toInt64 := (sm.1.2 rfl).1
      rw [nbF_f] at s1
      have s3 : g (nbF P') = a.toInt64 := (sm.2.1.2 rfl).1
      have w2 : (y2 + Int32.ofInt 1).toInt = ((nbT P' + 1 : Nat) : Int) := up_i hy2 (by omega)
      obtain ⟨x4, e4, h4⟩ : ∃ y, x1 + Int32.ofInt (-1) = y ∧ y.toInt = (P'.length : Int) := ⟨_, rfl, (dn_i (by omega) (by omega)).trans (by omega)⟩
      obtain ⟨w4, f4, g4⟩ : ∃ y, y1 + Int32.ofInt (-2) = y ∧ y.toInt = (nbF P' : Int) := ⟨_, rfl, dn2 hy1 fl⟩
      obtain ⟨cc, oo, n11, he2, ⟨o1, o2, o3, o4⟩, pr⟩ := en_cmp ex
      obtain ⟨z1, z2⟩ := Prod.mk.inj (he.symm.trans he2)
      obtain ⟨j1, j2⟩ := jn_cm (a := a) (b := b) cc oo pr
      rw [j1] at j2
      rw [wc_join q1 hx2 hc n11 (tk_j o3 o4) e4 h4 (by omega), ws_cmp ht h9 hy3 d300 q2 (ho.trans z1) o1 o2 f4 g4 (by omega) hy2, c1, c2, s1, s3, j1]
      exact go _ _ _ _ _ _ ((true, g_X12_isAsked oo a.toInt64 b.toInt64) :: P') (by rw [eT, ← eP']; rfl) (by rw [h4]; show (P'.length : Int) = ((P'.length + 1 : Nat) : Int) - 1; omega) (by show P'.length + 1 ≤ 39; omega) (by rw [nbF_t]; exact g4) (by rw [nbT_t]; exact w2) (SKc_p sc.2.2) (SKm_t sm.2.2 j2)
    · -- + - * /
      obtain ⟨b, P1, eP, eP1⟩ := mp1 eS
      subst eP
      obtain ⟨a, P', eP2, eP'⟩ := mp1 eP1
      subst eP2
      have lq : ((false, b) :: (false, a) :: P').length = P'.length + 2 := rfl
      have u1 : x1.toInt = (P'.length : Int) + 1 := by omega
      rw [nbT_f, nbT_f] at hy2 nbl
      rw [nbF_f, nbF_f] at hy1 nbl
      have l39 : P'.length ≤ 37 := by omega
      have fl : nbF P' ≤ 39 := by omega
      have c1 : f (P'.length + 1) = b := sc.1
      have c2 : f P'.length = a := sc.2.1
      obtain ⟨s1, s2⟩ := sm.1.2 rfl
      have s1 : g (nbF ((false, a) :: P')) = b.toInt64 := s1
      have s2 : vb9 b := s2
      rw [nbF_f] at s1
      obtain ⟨s3, s4⟩ := sm.2.1.2 rfl
      have s3 : g (nbF P') = a.toInt64 := s3
      have s4 : vb9 a := s4
      obtain ⟨x4, e4, h4⟩ : ∃ y, x1 + Int32.ofInt (-1) = y ∧ y.toInt = (P'.length : Int) := ⟨_, rfl, (dn_i (by omega) (by omega)).trans (by omega)⟩
      obtain ⟨w4, f4, g4, g5⟩ : ∃ y, y1 + Int32.ofInt (-1) = y ∧ y.toInt = ((nbF P' + 1 : Nat) : Int) ∧ (y - 1).toInt = (nbF P' : Int) := ⟨_, rfl, dn1 hy1 fl⟩
      obtain ⟨cc, oo, n11, he2, ⟨o1, o2, o3, o4⟩, pr⟩ := en_ari ex
      obtain ⟨z1, z2⟩ := Prod.mk.inj (he.symm.trans he2)
      obtain ⟨j1, j2⟩ := jn_ar s4 s2 cc oo pr
      rw [wc_join q1 hx2 hc n11 (tk_j o3 o4) e4 h4 (by omega), ws_ari ht h9 hy3 d300 q2 (ho.trans z1) o1 o2 f4 g4 g5, c1, c2, s1, s3, ← j1]
      exact go _ _ _ _ _ _ ((false, g_X8_join cc a b) :: P') (by rw [eT, ← eP']; rfl) (by rw [h4]; show (P'.length : Int) = ((P'.length + 1 : Nat) : Int) - 1; omega) (by show P'.length + 1 ≤ 39; omega) (by rw [nbF_f]; exact g4) (by rw [nbT_f]; exact hy2) (SKc_p sc.2.2) (SKm_f sm.2.2 j2 rfl)
/-- an EITHER's place, both sides -/
theorem cl_ei {r : Nat → Nat → Int32} {W : Nat} {A : Nat → Int32} : ∀ (M : CLs) (w : Nat), CTX r M → RTX W A M w → ∀ i, i < M.length → (r 257 i).toInt < 4 → ∃ (E : List Int32) (c d : Nat), (r 258 i).toInt = (c : Int) ∧ (r 258 (i + 1)).toInt = ((c + E.length : Nat) : Int) ∧ (∀ j y, E[j]? = some y → r 259 (c + j) = y) ∧ (A (W + 1 + 12 * i + 2)).toInt = (d : Int) ∧ (A (W + 1 + 12 * i + 3)).toInt = ((d + E.length : Nat) : Int) ∧ (∀ j y, E[j]? = some y → A (W + 250 + 2 * (d + j)) = (en y).1 ∧ A (W + 250 + 2 * (d + j) + 1) = (en y).2) ∧ eTr E [] = some [true] ∧ c + E.length ≤ tot M ∧ d + E.length ≤ w
  | [], _, _, _, _, h, _ => absurd h (Nat.not_lt_zero _)
  | x :: M, w, hC, hR, i, h, h4 => by
    obtain ⟨c1, c2, c3, c4⟩ := hC
    obtain ⟨r1, r2⟩ := hR
    have hl : (x :: M).length = M.length + 1 := rfl
    have ht : tot (x :: M) = tot M + x.2.length := rfl
    by_cases q : i = M.length
    · subst q
      rw [c2] at h4
      rcases r2 with ⟨b0, bt, w0, b1, b2, b3, b4, b5⟩ | ⟨b0, _⟩ | ⟨b0, _⟩
      · exact ⟨x.2, tot M, w0, ctx_tot M c1, c3, c4, b3, by rw [b4, b2], b5, bt, by omega, by omega⟩
      · omega
      · omega
    · have hR' : ∃ w', RTX W A M w' ∧ w' ≤ w := by
        rcases r2 with ⟨_, _, w0, b1, b2, _⟩ | ⟨_, _, b1, _⟩ | ⟨_, b1, _⟩
        · exact ⟨w0, b1, by omega⟩
        · exact ⟨w, b1, Nat.le_refl _⟩
        · exact ⟨w, b1, Nat.le_refl _⟩
      obtain ⟨w', hR', hw⟩ := hR'
      obtain ⟨E, c, d, g1, g2, g3, g4, g5, g6, g7, g8, g9⟩ := cl_ei M w' c1 hR' i (by omega) h4
      exact ⟨E, c, d, g1, g2, g3, g4, g5, g6, g7, by omega, by omega⟩
/-- the first EITHER of a sort that is so, both sides -/
theorem fs_sim {w t : Nat} {a p mo un t0 : Int32} {M : CLs} {N : Nat → Int32} (ht : t0.toInt = (t : Int)) (h9 : t ≤ 9) (hX : TEX1 tI tR (si 384) w t M) (ha0 : 0 ≤ a.toInt) (ha4 : a.toInt < 4) (hN : ∀ j, j < 6 → ri 102 j = N j ∧ vb9 (N j)) (hN2 : ∀ (x : Int32) (j : Nat) (h : Nat → Int32) (g : Nat → Int64), x.toInt = (j : Int) → j < 6 → g_X12_named p x mo un U V (va_up si 405 h) (va_up sj 404 g) sq = (N j, U, V, va_up si 405 h, va_up sj 404 g, sq)) : ∀ (m : Nat) (x : Int32) (j : Nat) (f h : Nat → Int32) (g : Nat → Int64), x.toInt = (j : Int) → j ≤ M.length → M.length - j < m → ∃ (v : Int32) (f' h' : Nat → Int32) (g' : Nat → Int64), g_X8_firstSo_102_103_L3 w a I J rj rq tI tR m x (va_up ri 103 f) = (v, I, J, va_up ri 103 f', rj, rq) ∧ g_X12_firstSo_L11 (srC a) p mo un U V sq t0 m x (va_up si 405 h) (va_up sj 404 g) = (v, U, V, va_up si 405 h', va_up sj 404 g', sq) ∧ (v = -1 ∨ 0 ≤ v.toInt) := by
  obtain ⟨x1, x2, x3, x4, u, x5, x6, x7⟩ := hX
  have k0 : (0 : Int32).toInt = 0 := by decide
  have s384 : ∀ h : Nat → Int32, va_up si 405 h 384 = si 384 := fun h => va_up_ne _ _ (by decide)
  have hs := TEX1_s (w := w) (t := t) (M := M) (a := a) (tI := tI) (tR := tR) (A := si 384) ⟨x1, x2, x3, x4, u, x5, x6, x7⟩ ha0 (by omega)
  have nt : ¬ t0 < 0 := fun q => by
    have := Int32.lt_iff_toInt_lt.mp q
    rw [k0] at this
    omega
  intro m
  induction m with
  | zero => intro _ _ _ _ _ _ _ h; exact absurd h (Nat.not_lt_zero _)
  | succ m ih =>
    intro x j f h g hx hj hm
    rw [g_X8_firstSo_102_103_L3_e, g_X12_firstSo_L11_e]
    simp only [↓ap1_n]
    rw [if_neg nt, bn_n (cof_v ht (by omega)), s384, x2]
    by_cases q : tI 256 w ≤ x
    · rw [if_pos q, if_pos q]
      exact ⟨-1, f, h, g, rfl, rfl, Or.inl rfl⟩
    · have q1 : ¬ M.length ≤ j := fun y => q ((le_n x1 hx).mpr y)
      obtain ⟨y, e1, e2⟩ := cat_v (U := U) (V := V) (si := va_up si 405 h) (sj := va_up sj 404 g) (sq := sq) ht (by omega) hx (by omega)
      have nx : (x + Int32.ofInt 1).toInt = ((j + 1 : Nat) : Int) := up_i hx (by omega)
      rw [if_neg q, if_neg q, bn_n e1, bn_n e1, at_n hx, at_n e2]
      by_cases c : tR 257 w j = a
      · rw [if_pos c, if_pos ((hs j (by omega)).mpr c), g_X8_work_102_103_e, g_X12_isSo_e]
        simp only [↓ap1_n, s384]
        obtain ⟨E, cc, dd, b1, b2, b3, b4, b5, b6, b7, b8, b9⟩ := cl_ei M u x4 x5 j (by omega) (by show (tR 257 w j).toInt < 4; rw [c]; exact ha4)
        have b1 : (tR 258 w j).toInt = (cc : Int) := b1
        have b2 : (tR 258 w (j + 1)).toInt = ((cc + E.length : Nat) : Int) := b2
        have j1 : (x + 1).toNatClampNeg = j + 1 := at_n (upN hx (by omega))
        have y2 : (y + 2).toNatClampNeg = 3720 + 900 * t + 1 + 12 * j + 2 := at_n ((i_add e2 (show (2 : Int32).toInt = 2 by decide) (by omega) (by omega)).trans (by omega))
        have y3 : (y + 3).toNatClampNeg = 3720 + 900 * t + 1 + 12 * j + 3 := at_n ((i_add e2 (show (3 : Int32).toInt = 3 by decide) (by omega) (by omega)).trans (by omega))
        rw [at_n hx, y2]
        obtain ⟨v, f', h', g', w1, w2⟩ := wk_sim (I := I) (J := J) (ri := ri) (rj := rj) (rq := rq) (U := U) (V := V) (si := si) (sj := sj) (sq := sq) (tR := tR) (w := w) (t := t) (a0 := x) (a1 := y) (a2 := p) (a3 := mo) (a4 := un) (t0 := t0) (N := N) ht (by omega) (by rw [j1]) (by rw [y3]) hN hN2 E ((300 - (tR 258 w j).toInt).toNat + 1) ((300 - (si 384 (3720 + 900 * t + 1 + 12 * j + 2)).toInt).toNat + 1) cc dd (-1) (tR 258 w j) 0 0 (si 384 (3720 + 900 * t + 1 + 12 * j + 2)) f h g [] (by rw [b1]; omega) (by rw [b4]; omega) b3 b6 b1 b2 b4 b5 (by omega) (by omega) (by decide) (by decide) k0 k0 trivial trivial b7
        rw [bn_n w1, bn_n w2]
        by_cases d : v = 0
        · rw [if_pos d, if_pos d, g_X8_firstSo_102_103_K37_e]
          simp only [↓ap1_n]
          exact ih _ (j + 1) f' h' g' nx (by omega) (by omega)
        · rw [if_neg d, if_neg d]
          exact ⟨x, f', h', g', rfl, rfl, Or.inr (by omega)⟩
      · rw [if_neg c, if_neg (fun z => c ((hs j (by omega)).mp z)), g_X8_firstSo_102_103_K37_e]
        simp only [↓ap1_n]
        exact ih _ (j + 1) f h g nx (by omega) (by omega)
/-- whatever waits in the rows that are written on the way: one answer -/
theorem so_un {w t : Nat} {a p mo un t0 : Int32} {M : CLs} {N : Nat → Int32} (ht : t0.toInt = (t : Int)) (h9 : t ≤ 9) (hX : TEX1 tI tR (si 384) w t M) (ha0 : 0 ≤ a.toInt) (ha4 : a.toInt < 4) (hN : ∀ j, j < 6 → vb9 (N j)) (hN2 : ∀ (x : Int32) (j : Nat) (h : Nat → Int32) (g : Nat → Int64), x.toInt = (j : Int) → j < 6 → g_X12_named p x mo un U V (va_up si 405 h) (va_up sj 404 g) sq = (N j, U, V, va_up si 405 h, va_up sj 404 g, sq)) : ∃ v : Int32, (v = -1 ∨ 0 ≤ v.toInt) ∧ (∀ R : Nat → Nat → Int32, (∀ j, j < 6 → R 102 j = N j) → ∃ f' : Nat → Int32, g_X8_firstSo_102_103 tI tR w a I J R rj rq = (v, I, J, va_up R 103 f', rj, rq)) ∧ ∀ (h : Nat → Int32) (g : Nat → Int64), ∃ (h' : Nat → Int32) (g' : Nat → Int64), g_X12_firstSo_L11 (srC a) p mo un U V sq t0 ((20 - (0 : Int32).toInt).toNat + 1) 0 (va_up si 405 h) (va_up sj 404 g) = (v, U, V, va_up si 405 h', va_up sj 404 g', sq) := by
  have k0 : (0 : Int32).toInt = 0 := by decide
  have hM : M.length ≤ 20 := hX.2.2.1
  have one : ∀ R : Nat → Nat → Int32, (∀ j, j < 6 → R 102 j = N j) → ∀ (h : Nat → Int32) (g : Nat → Int64), ∃ (v : Int32) (f' h' : Nat → Int32) (g' : Nat → Int64), g_X8_firstSo_102_103 tI tR w a I J R rj rq = (v, I, J, va_up R 103 f', rj, rq) ∧ g_X12_firstSo_L11 (srC a) p mo un U V sq t0 ((20 - (0 : Int32).toInt).toNat + 1) 0 (va_up si 405 h) (va_up sj 404 g) = (v, U, V, va_up si 405 h', va_up sj 404 g', sq) ∧ (v = -1 ∨ 0 ≤ v.toInt) := fun R hR h g => by
    rw [g_X8_firstSo_102_103_e]
    have := fs_sim (I := I) (J := J) (ri := R) (rj := rj) (rq := rq) (U := U) (V := V) (si := si) (sj := sj) (sq := sq) (tI := tI) (tR := tR) (p := p) (mo := mo) (un := un) ht h9 hX ha0 ha4 (fun j hj => ⟨hR j hj, hN j hj⟩) hN2 ((20 - (0 : Int32).toInt).toNat + 1) 0 0 (R 103) h g k0 (Nat.zero_le _) (by rw [k0]; omega)
    rw [up_id] at this
    exact this
  obtain ⟨v, f0, h0, g0, e1, e2, e3⟩ := one (fun _ => N) (fun _ _ => rfl) (fun _ => 0) (fun _ => 0)
  refine ⟨v, e3, fun R hR => ?_, fun h g => ?_⟩
  · obtain ⟨v2, f2, h2, g2, y1, y2, _⟩ := one R hR (fun _ => 0) (fun _ => 0)
    have : v2 = v := (Prod.mk.inj (y2.symm.trans e2)).1
    rw [this] at y1
    exact ⟨f2, y1⟩
  · obtain ⟨v2, f2, h2, g2, y1, y2, _⟩ := one (fun _ => N) (fun _ _ => rfl) h g
    have : v2 = v := (Prod.mk.inj (y1.symm.trans e1)).1
    rw [this] at y2
    exact ⟨h2, g2, y2⟩
end PK1
/-! ===== pure: who is so by THE LAW, both sides (behind pk1) ===== -/
section PK2
variable {I : Nat → Int32} {J : Nat → Int64} {ri : Nat → Nat → Int32} {rj : Nat → Nat → Int64} {rq : Nat → Nat → Option Nat}
variable {U : Nat → Int32} {V : Nat → Int64} {si : Nat → Nat → Int32} {sj : Nat → Nat → Int64} {sq : Nat → Nat → Option Nat}
variable {tI : Nat → Nat → Int32} {tR : Nat → Nat → Nat → Int32}
/-- PERSONS of both sides: KIN, AGE, CRAFT, PLACE, what they SEND, how they vote -/
def FLK (I : Nat → Int32) (ri : Nat → Nat → Int32) (A : Nat → Int32) : Prop := I 0 = A 5 ∧ (0 ≤ (A 5).toInt ∧ (A 5).toInt ≤ 40) ∧ ∀ p, p < 40 → (ri 1 p = A (740 + 12 * p) ∧ ri 2 p = A (740 + 12 * p + 1) ∧ ri 3 p = A (740 + 12 * p + 2) ∧ ri 5 p = A (740 + 12 * p + 3) ∧ ri 4 p = A (740 + 12 * p + 4) ∧ ri 9 p = A (740 + 12 * p + 8)) ∧ (0 ≤ (A (740 + 12 * p)).toInt ∧ (A (740 + 12 * p)).toInt ≤ 9) ∧ (0 ≤ (A (740 + 12 * p + 1)).toInt ∧ (A (740 + 12 * p + 1)).toInt ≤ 99) ∧ (0 ≤ (A (740 + 12 * p + 2)).toInt ∧ (A (740 + 12 * p + 2)).toInt ≤ 7) ∧ (0 ≤ (A (740 + 12 * p + 3)).toInt ∧ (A (740 + 12 * p + 3)).toInt ≤ 300) ∧ ((A (740 + 12 * p + 3)).toInt < 5 ∨ 100 ≤ (A (740 + 12 * p + 3)).toInt)
/-- what a NAME is of PERSON p -/
def nmv (A : Nat → Int32) (p : Nat) (mo un : Int32) (j : Nat) : Int32 := if j = 0 then A (740 + 12 * p + 1) else if j = 1 then A (740 + 12 * p) else if j = 2 then A (740 + 12 * p + 2) else if j = 3 then A (740 + 12 * p + 3) else if j = 4 then mo else un
theorem pa0 {x : Int32} {p : Nat} (hx : x.toInt = (p : Int)) (hp : p < 40) : g_X12_personAt_c0 x U V si sj sq = (si 384 (740 + 12 * p), U, V, si, sj, sq) := by
  rw [g_X12_personAt_c0_e]
  simp only [↓ap1_n]
  rw [ixp (c := x) (k := 0) 0 (by decide) (by decide) (by omega) (by omega), at_n hx, Nat.add_zero]
theorem pa1 {x : Int32} {p : Nat} (hx : x.toInt = (p : Int)) (hp : p < 40) : g_X12_personAt_c1 x U V si sj sq = (si 384 (740 + 12 * p + 1), U, V, si, sj, sq) := by
  rw [g_X12_personAt_c1_e]
  simp only [↓ap1_n]
  rw [ixp (c := x) (k := 1) 1 (by decide) (by decide) (by omega) (by omega), at_n hx]
theorem pa2 {x : Int32} {p : Nat} (hx : x.toInt = (p : Int)) (hp : p < 40) : g_X12_personAt_c2 x U V si sj sq = (si 384 (740 + 12 * p + 2), U, V, si, sj, sq) := by
  rw [g_X12_personAt_c2_e]
  simp only [↓ap1_n]
  rw [ixp (c := x) (k := 2) 2 (by decide) (by decide) (by omega) (by omega), at_n hx]
theorem pa3 {x : Int32} {p : Nat} (hx : x.toInt = (p : Int)) (hp : p < 40) : g_X12_personAt_c3 x U V si sj sq = (si 384 (740 + 12 * p + 3), U, V, si, sj, sq) := by
  rw [g_X12_personAt_c3_e]
  simp only [↓ap1_n]
  rw [ixp (c := x) (k := 3) 3 (by decide) (by decide) (by omega) (by omega), at_n hx]
/-- NAMES of the reference -/
theorem named_v {y mo un x : Int32} {p j : Nat} (hy : y.toInt = (p : Int)) (hp : p < 40) (hx : x.toInt = (j : Int)) (hj : j < 6) : g_X12_named y x mo un U V si sj sq = (nmv (si 384) p mo un j, U, V, si, sj, sq) := by
  have e : ∀ k : Nat, j = k → ∀ z : Int32, z.toInt = (k : Int) → x = z := fun k hk z hz => Int32.toInt_inj.mp (by rw [hx, hz, hk])
  have n : ∀ k : Nat, j ≠ k → ∀ z : Int32, z.toInt = (k : Int) → ¬ x = z := fun k hk z hz q => by
    have := congrArg Int32.toInt q
    rw [hx, hz] at this
    omega
  unfold nmv
  rw [g_X12_named_e]
  by_cases c0 : j = 0
  · rw [if_pos (e 0 c0 0 (by decide)), if_pos c0, bn_n (pa1 hy hp)]
  rw [if_neg (n 0 c0 0 (by decide)), if_neg c0]
  by_cases c1 : j = 1
  · rw [if_pos (e 1 c1 1 (by decide)), if_pos c1, bn_n (pa0 hy hp)]
  rw [if_neg (n 1 c1 1 (by decide)), if_neg c1]
  by_cases c2 : j = 2
  · rw [if_pos (e 2 c2 2 (by decide)), if_pos c2, bn_n (pa2 hy hp)]
  rw [if_neg (n 2 c2 2 (by decide)), if_neg c2]
  by_cases c3 : j = 3
  · rw [if_pos (e 3 c3 3 (by decide)), if_pos c3, bn_n (pa3 hy hp)]
  rw [if_neg (n 3 c3 3 (by decide)), if_neg c3]
  by_cases c4 : j = 4
  · rw [if_pos (e 4 c4 4 (by decide)), if_pos c4]
  rw [if_neg (n 4 c4 4 (by decide)), if_neg c4]
/-- NAMES of the class -/
theorem val_v {y mo : Int32} {p : Nat} (hy : y.toInt = (p : Int)) : g_X0_valueOf y 12 mo I J ri rj rq = (ri 2 p, I, J, ri, rj, rq) ∧ g_X0_valueOf y 13 mo I J ri rj rq = (ri 1 p, I, J, ri, rj, rq) ∧ g_X0_valueOf y 14 mo I J ri rj rq = (ri 3 p, I, J, ri, rj, rq) ∧ g_X0_valueOf y 15 mo I J ri rj rq = (ri 5 p, I, J, ri, rj, rq) ∧ g_X0_valueOf y 16 mo I J ri rj rq = (mo, I, J, ri, rj, rq) ∧ g_X0_valueOf y 17 mo I J ri rj rq = (0, I, J, ri, rj, rq) := by
  have hp := at_n hy
  refine ⟨?_, ?_, ?_, ?_, ?_, ?_⟩
  · rw [g_X0_valueOf_e, if_pos (show (12 : Int32) = 12 from rfl)]
    simp only [↓ap1_n]
    rw [hp]
  · rw [g_X0_valueOf_e, if_neg (show ¬ (13 : Int32) = 12 by decide), if_pos (show (13 : Int32) = 13 from rfl)]
    simp only [↓ap1_n]
    rw [hp]
  · rw [g_X0_valueOf_e, if_neg (show ¬ (14 : Int32) = 12 by decide), if_neg (show ¬ (14 : Int32) = 13 by decide), if_pos (show (14 : Int32) = 14 from rfl)]
    simp only [↓ap1_n]
    rw [hp]
  · rw [g_X0_valueOf_e, if_neg (show ¬ (15 : Int32) = 12 by decide), if_neg (show ¬ (15 : Int32) = 13 by decide), if_neg (show ¬ (15 : Int32) = 14 by decide), if_pos (show (15 : Int32) = 15 from rfl)]
    simp only [↓ap1_n]
    rw [hp]
  · rw [g_X0_valueOf_e, if_neg (show ¬ (16 : Int32) = 12 by decide), if_neg (show ¬ (16 : Int32) = 13 by decide), if_neg (show ¬ (16 : Int32) = 14 by decide), if_neg (show ¬ (16 : Int32) = 15 by decide), if_pos (show (16 : Int32) = 16 from rfl)]
  · rw [g_X0_valueOf_e, if_neg (show ¬ (17 : Int32) = 12 by decide), if_neg (show ¬ (17 : Int32) = 13 by decide), if_neg (show ¬ (17 : Int32) = 14 by decide), if_neg (show ¬ (17 : Int32) = 15 by decide), if_neg (show ¬ (17 : Int32) = 16 by decide)]
theorem nameAll_v {y mo un : Int32} {p : Nat} {A : Nat → Int32} (hy : y.toInt = (p : Int)) (h1 : ri 1 p = A (740 + 12 * p)) (h2 : ri 2 p = A (740 + 12 * p + 1)) (h3 : ri 3 p = A (740 + 12 * p + 2)) (h5 : ri 5 p = A (740 + 12 * p + 3)) : ∃ F : Nat → Int32, g_X3_nameAll y mo un I J ri rj rq = (I, J, va_up ri 102 F, rj, rq) ∧ ∀ j, j < 6 → F j = nmv A p mo un j := by
  have n1 : ((17 - ((12 : Int32)).toInt).toNat + 1) = 0 + 1 + 1 + 1 + 1 + 1 + 1 := by decide
  have s13 : (12 : Int32) + Int32.ofInt 1 = 13 := by decide
  have s14 : (13 : Int32) + Int32.ofInt 1 = 14 := by decide
  have s15 : (14 : Int32) + Int32.ofInt 1 = 15 := by decide
  have s16 : (15 : Int32) + Int32.ofInt 1 = 16 := by decide
  have s17 : (16 : Int32) + Int32.ofInt 1 = 17 := by decide
  have i0 : ((12 : Int32) - 12).toNatClampNeg = 0 := by decide
  have i1 : ((13 : Int32) - 12).toNatClampNeg = 1 := by decide
  have i2 : ((14 : Int32) - 12).toNatClampNeg = 2 := by decide
  have i3 : ((15 : Int32) - 12).toNatClampNeg = 3 := by decide
  have i4 : ((16 : Int32) - 12).toNatClampNeg = 4 := by decide
  have i5 : (5 : Int32).toNatClampNeg = 5 := by decide
  have o : ∀ (F : Nat → Int32) (t : Nat), t ≠ 102 → va_up ri 102 F t = ri t := fun F t ht => va_up_ne _ _ ht
  have v2 := fun R => val_v (I := I) (J := J) (ri := R) (rj := rj) (rq := rq) (y := y) (mo := mo) hy
  rw [g_X3_nameAll_e, n1, g_X3_nameAll_L4_e, if_neg (show ¬ (17 : Int32) ≤ 12 by decide)]
  simp only [↓ap1_n]
  rw [bn_n (v2 ri).1, i0, s13, g_X3_nameAll_L4_e, if_neg (show ¬ (17 : Int32) ≤ 13 by decide)]
  simp only [↓ap1_n]
  rw [bn_n (v2 _).2.1, va_up_self, up_up, i1, s14, g_X3_nameAll_L4_e, if_neg (show ¬ (17 : Int32) ≤ 14 by decide)]
  simp only [↓ap1_n]
  rw [bn_n (v2 _).2.2.1, va_up_self, up_up, i2, s15, g_X3_nameAll_L4_e, if_neg (show ¬ (17 : Int32) ≤ 15 by decide)]
  simp only [↓ap1_n]
  rw [bn_n (v2 _).2.2.2.1, va_up_self, up_up, i3, s16, g_X3_nameAll_L4_e, if_neg (show ¬ (17 : Int32) ≤ 16 by decide)]
  simp only [↓ap1_n]
  rw [bn_n (v2 _).2.2.2.2.1, va_up_self, up_up, i4, s17, g_X3_nameAll_L4_e, if_pos (show (17 : Int32) ≤ 17 by decide)]
  simp only [↓ap1_n]
  rw [va_up_self, up_up, i5, o _ 1 (by decide), o _ 3 (by decide), o _ 5 (by decide), h1, h2, h3, h5]
  refine ⟨_, rfl, fun j hj => ?_⟩
  unfold nmv
  by_cases c0 : j = 0
  · rw [if_pos c0, c0, upd_n _ _ (by decide), upd_n _ _ (by decide), upd_n _ _ (by decide), upd_n _ _ (by decide), upd_n _ _ (by decide), upd_s]
  rw [if_neg c0]
  by_cases c1 : j = 1
  · rw [if_pos c1, c1, upd_n _ _ (by decide), upd_n _ _ (by decide), upd_n _ _ (by decide), upd_n _ _ (by decide), upd_s]
  rw [if_neg c1]
  by_cases c2 : j = 2
  · rw [if_pos c2, c2, upd_n _ _ (by decide), upd_n _ _ (by decide), upd_n _ _ (by decide), upd_s]
  rw [if_neg c2]
  by_cases c3 : j = 3
  · rw [if_pos c3, c3, upd_n _ _ (by decide), upd_n _ _ (by decide), upd_s]
  rw [if_neg c3]
  by_cases c4 : j = 4
  · rw [if_pos c4, c4, upd_n _ _ (by decide), upd_s]
  rw [if_neg c4, show j = 5 by omega, upd_s]
theorem tft_v {a mo : Int32} (h0 : 0 ≤ a.toInt) (h8 : a.toInt ≤ 8) (hT : TXS I rq tI tR (si 384)) (hF : FCS I ri (si 384)) : ∃ (o : Option Nat) (y : Int32), g_X3_textFor tI tR a mo I J ri rj rq = (o, I, J, ri, rj, rq) ∧ g_X12_textFor (srC a) mo U V si sj sq = (y, U, V, si, sj, sq) ∧ ((o = none ∧ y = -1) ∨ ∃ (w t : Nat) (M : CLs), o = some w ∧ y.toInt = (t : Int) ∧ t ≤ 9 ∧ TEX1 tI tR (si 384) w t M) := by
  have n7 : (7 : Int32).toNatClampNeg = 7 := by decide
  have hF' := hF
  obtain ⟨f0, ⟨f1, f2⟩, _⟩ := hF'
  rw [g_X3_textFor_e, g_X12_textFor_e]
  simp only [↓ap1_n, n7]
  rw [f0]
  have hx : (si 384 7 - 1).toInt = (si 384 7).toInt - 1 := i_sub rfl (show (1 : Int32).toInt = 1 by decide) (by omega) (by omega)
  obtain ⟨o, y, e1, e2, e3⟩ := tf_sim (I := I) (J := J) (ri := ri) (rj := rj) (rq := rq) (U := U) (V := V) (si := si) (sj := sj) (sq := sq) (tI := tI) (tR := tR) (a := a) (mo := mo) h0 h8 hT hF (((si 384 7 - 1).toInt - (-1)).toNat + 1) (si 384 7 - 1) (by rw [hx]; omega) (by rw [hx]; omega) (by rw [hx]; omega)
  refine ⟨o, y, e1, e2, ?_⟩
  rcases e3 with ⟨z1, z2⟩ | ⟨w, t, M, z1, z2, z3, z4, _⟩
  · exact Or.inl ⟨z1, z2⟩
  · exact Or.inr ⟨w, t, M, z1, z2, z3, z4⟩
/-- the first EITHER that is so for a PERSON, whatever waits in the rows on the way -/
def FSV (tI : Nat → Nat → Int32) (tR : Nat → Nat → Nat → Int32) (I : Nat → Int32) (J : Nat → Int64) (ri : Nat → Nat → Int32) (rj : Nat → Nat → Int64) (rq : Nat → Nat → Option Nat) (U : Nat → Int32) (V : Nat → Int64) (si : Nat → Nat → Int32) (sj : Nat → Nat → Int64) (sq : Nat → Nat → Option Nat) (a y mo un : Int32) (o : Option Nat) (v : Int32) : Prop := (v = -1 ∨ 0 ≤ v.toInt) ∧ (∀ (h : Nat → Int32) (g : Nat → Int64), ∃ (z : Int32) (h' : Nat → Int32) (g' : Nat → Int64), g_X12_textFor (srC a) mo U V (va_up si 405 h) (va_up sj 404 g) sq = (z, U, V, va_up si 405 h, va_up sj 404 g, sq) ∧ (z < 0 ↔ o = none) ∧ g_X12_firstSo (srC a) y mo un U V (va_up si 405 h) (va_up sj 404 g) sq = (v, U, V, va_up si 405 h', va_up sj 404 g', sq)) ∧ (o = none → v = -1) ∧ ∀ w, o = some w → ∀ R : Nat → Nat → Int32, (∀ t, t ∈ [1, 2, 3, 5] → R t = ri t) → ∃ F f' : Nat → Int32, g_X3_nameAll y mo un I J R rj rq = (I, J, va_up R 102 F, rj, rq) ∧ g_X8_firstSo_102_103 tI tR w a I J (va_up R 102 F) rj rq = (v, I, J, va_up (va_up R 102 F) 103 f', rj, rq)
theorem nm_b {A : Nat → Int32} {p : Nat} {mo un : Int32} (h1 : vb9 (A (740 + 12 * p))) (h2 : vb9 (A (740 + 12 * p + 1))) (h3 : vb9 (A (740 + 12 * p + 2))) (h4 : vb9 (A (740 + 12 * p + 3))) (h5 : vb9 mo) (h6 : vb9 un) : ∀ j, j < 6 → vb9 (nmv A p mo un j) := fun j hj => by
  unfold nmv
  split
  · exact h2
  split
  · exact h1
  split
  · exact h3
  split
  · exact h4
  split
  · exact h5
  · exact h6
theorem fsv_v {a y mo un : Int32} {p : Nat} (h0 : 0 ≤ a.toInt) (h4 : a.toInt < 4) (hy : y.toInt = (p : Int)) (hp : p < 40) (hm : vb9 mo) (hu : vb9 un) (hT : TXS I rq tI tR (si 384)) (hF : FCS I ri (si 384)) (hK : FLK I ri (si 384)) : ∃ (o : Option Nat) (v : Int32), g_X3_textFor tI tR a mo I J ri rj rq = (o, I, J, ri, rj, rq) ∧ FSV tI tR I J ri rj rq U V si sj sq a y mo un o v := by
  have k0 : (0 : Int32).toInt = 0 := by decide
  have s384 : ∀ h : Nat → Int32, va_up si 405 h 384 = si 384 := fun h => va_up_ne _ _ (by decide)
  obtain ⟨_, _, kp⟩ := hK
  obtain ⟨⟨p1, p2, p3, p4, _⟩, b1, b2, b3, b4⟩ := kp p hp
  have hNb := nm_b (A := si 384) (p := p) (mo := mo) (un := un) ⟨by omega, by omega⟩ ⟨by omega, by omega⟩ ⟨by omega, by omega⟩ ⟨by omega, by omega⟩ hm hu
  have hN2 : ∀ (x : Int32) (j : Nat) (h : Nat → Int32) (g : Nat → Int64), x.toInt = (j : Int) → j < 6 → g_X12_named y x mo un U V (va_up si 405 h) (va_up sj 404 g) sq = (nmv (si 384) p mo un j, U, V, va_up si 405 h, va_up sj 404 g, sq) := fun x j h g hx hj => by
    have := named_v (U := U) (V := V) (si := va_up si 405 h) (sj := va_up sj 404 g) (sq := sq) (mo := mo) (un := un) hy hp hx hj
    rw [s384] at this
    exact this
  have tf : ∀ (h : Nat → Int32) (g : Nat → Int64), ∃ (o : Option Nat) (z : Int32), g_X3_textFor tI tR a mo I J ri rj rq = (o, I, J, ri, rj, rq) ∧ g_X12_textFor (srC a) mo U V (va_up si 405 h) (va_up sj 404 g) sq = (z, U, V, va_up si 405 h, va_up sj 404 g, sq) ∧ ((o = none ∧ z = -1) ∨ ∃ (w t : Nat) (M : CLs), o = some w ∧ z.toInt = (t : Int) ∧ t ≤ 9 ∧ TEX1 tI tR (si 384) w t M) := fun h g => by
    have := tft_v (I := I) (J := J) (ri := ri) (rj := rj) (rq := rq) (U := U) (V := V) (si := va_up si 405 h) (sj := va_up sj 404 g) (sq := sq) (tI := tI) (tR := tR) (a := a) (mo := mo) h0 (by omega) (by rw [s384]; exact hT) (by rw [s384]; exact hF)
    rw [s384] at this
    exact this
  obtain ⟨o, z0, t1, t2, t3⟩ := tf (fun _ => 0) (fun _ => 0)
  rcases t3 with ⟨e1, e2⟩ | ⟨w, t, M, e1, e2, e3, e4⟩
  · refine ⟨o, -1, t1, Or.inl rfl, fun h g => ?_, ⟨fun _ => rfl, fun w q => by rw [e1] at q; cases q⟩⟩
    obtain ⟨o2, z, u1, u2, u3⟩ := tf h g
    have eo : o2 = o := (Prod.mk.inj (u1.symm.trans t1)).1
    rcases u3 with ⟨y1, y2⟩ | ⟨w, t, M, y1, _⟩
    · refine ⟨z, h, g, u2, ⟨fun _ => e1, fun _ => by rw [y2]; decide⟩, ?_⟩
      rw [g_X12_firstSo_e, bn_n u2, g_X12_firstSo_L11_e, if_pos (show z < 0 by rw [y2]; decide), g_X12_firstSo_K74_e]
    · rw [eo, e1] at y1
      cases y1
  · obtain ⟨v, v1, v2, v3⟩ := so_un (I := I) (J := J) (rj := rj) (rq := rq) (U := U) (V := V) (si := si) (sj := sj) (sq := sq) (tI := tI) (tR := tR) (a := a) (p := y) (mo := mo) (un := un) e2 e3 e4 h0 h4 hNb hN2
    refine ⟨o, v, t1, v1, fun h g => ?_, ⟨fun q => (by rw [e1] at q; cases q), fun w2 q R hR => ?_⟩⟩
    · obtain ⟨o2, z, u1, u2, u3⟩ := tf h g
      have eo : o2 = o := (Prod.mk.inj (u1.symm.trans t1)).1
      rcases u3 with ⟨y1, y2⟩ | ⟨w2, t', M', y1, y2, y3, y4⟩
      · rw [eo, e1] at y1
        cases y1
      · have ew : w2 = w := by
          rw [eo, e1] at y1
          exact (Option.some.inj y1).symm
        rw [ew] at y4
        obtain ⟨v', w1, w2, w3⟩ := so_un (I := I) (J := J) (rj := rj) (rq := rq) (U := U) (V := V) (si := si) (sj := sj) (sq := sq) (tI := tI) (tR := tR) (a := a) (p := y) (mo := mo) (un := un) y2 y3 y4 h0 h4 hNb hN2
        obtain ⟨f1, x1⟩ := v2 (fun _ => nmv (si 384) p mo un) (fun _ _ => rfl)
        obtain ⟨f2, x2⟩ := w2 (fun _ => nmv (si 384) p mo un) (fun _ _ => rfl)
        have ev : v' = v := (Prod.mk.inj (x2.symm.trans x1)).1
        obtain ⟨h', g', x3⟩ := w3 h g
        rw [ev] at x3
        refine ⟨z, h', g', u2, ⟨fun q => ?_, fun q => ?_⟩, ?_⟩
        · have := Int32.lt_iff_toInt_lt.mp q
          rw [k0] at this
          omega
        · rw [e1] at q
          cases q
        · rw [g_X12_firstSo_e, bn_n u2]
          exact x3
    · have ew : w2 = w := by
        rw [e1] at q
        exact (Option.some.inj q).symm
      rw [ew]
      obtain ⟨F, n1, n2⟩ := nameAll_v (I := I) (J := J) (ri := R) (rj := rj) (rq := rq) (mo := mo) (un := un) (A := si 384) hy (by rw [hR 1 (by decide)]; exact p1) (by rw [hR 2 (by decide)]; exact p2) (by rw [hR 3 (by decide)]; exact p3) (by rw [hR 5 (by decide)]; exact p4)
      obtain ⟨f', x1⟩ := v2 (va_up R 102 F) (fun j hj => by rw [va_up_self]; exact n2 j hj)
      exact ⟨F, f', n1, x1⟩
/-- people, may, vote of the reference -/
theorem isFor_v {a y mo : Int32} {o : Option Nat} {v : Int32} (h : FSV tI tR I J ri rj rq U V si sj sq a y mo 0 o v) : ∀ (h : Nat → Int32) (g : Nat → Int64), ∃ (h' : Nat → Int32) (g' : Nat → Int64), g_X12_isFor (srC a) y mo U V (va_up si 405 h) (va_up sj 404 g) sq = ((if o = none ∨ v ≠ -1 then 1 else 0), U, V, va_up si 405 h', va_up sj 404 g', sq) := fun h' g' => by
  have k0 : (0 : Int32).toInt = 0 := by decide
  obtain ⟨v1, v2, v3, _⟩ := h
  obtain ⟨z, h2, g2, e1, e2, e3⟩ := v2 h' g'
  rw [g_X12_isFor_e, bn_n e1]
  by_cases q : z < 0
  · rw [if_pos q, if_pos (Or.inl (e2.mp q))]
    exact ⟨h', g', rfl⟩
  · rw [if_neg q, bn_n e3]
    by_cases c : v = -1
    · rw [if_pos (show v < 0 by rw [c]; decide), if_neg (show ¬ (o = none ∨ v ≠ -1) from fun y => by
        rcases y with y | y
        · exact q (e2.mpr y)
        · exact y c)]
      exact ⟨h2, g2, rfl⟩
    · have nv : ¬ v < 0 := fun y => by
        have := Int32.lt_iff_toInt_lt.mp y
        rw [k0] at this
        rcases v1 with v1 | v1
        · exact c v1
        · omega
      rw [if_neg nv, if_pos (Or.inr c)]
      exact ⟨h2, g2, rfl⟩
/-- people, may, vote of the class -/
theorem who_v {a mo : Int32} {asked : Int64} (h0 : 0 ≤ a.toInt) (h4 : a.toInt < 4) (hm : vb9 mo) (hT : TXS I rq tI tR (si 384)) (hF : FCS I ri (si 384)) (hK : FLK I ri (si 384)) : ∃ (so : Int64) (B : Nat → Bool) (R : Nat → Nat → Int32), g_X3_whoIsSo tI tR a mo asked I J ri rj rq = (so, I, J, R, rj, rq) ∧ (∀ t, t ≠ 102 → t ≠ 103 → R t = ri t) ∧ (∀ p, p < (I 0).toNatClampNeg → hb so p = (hb asked p && B p)) ∧ (∀ p, p < 64 → hb so p = true → hb asked p = true) ∧ ∀ (y : Int32) (p : Nat), y.toInt = (p : Int) → p < 40 → ∀ (h : Nat → Int32) (g : Nat → Int64), ∃ (h' : Nat → Int32) (g' : Nat → Int64), g_X12_isFor (srC a) y mo U V (va_up si 405 h) (va_up sj 404 g) sq = ((if B p = true then 1 else 0), U, V, va_up si 405 h', va_up sj 404 g', sq) := by
  have k0 : (0 : Int32).toInt = 0 := by decide
  have nI : ∀ p : Nat, p < 40 → ∃ y : Int32, y.toInt = (p : Int) := fun p hp => ⟨Int32.ofNat p, Int32.toInt_ofNat_of_lt (by omega)⟩
  have vb0 : vb9 0 := ⟨by decide, by decide⟩
  have one := fun (y : Int32) (p : Nat) (hy : y.toInt = (p : Int)) (hp : p < 40) => fsv_v (I := I) (J := J) (ri := ri) (rj := rj) (rq := rq) (U := U) (V := V) (si := si) (sj := sj) (sq := sq) (tI := tI) (tR := tR) (a := a) (mo := mo) (un := 0) h0 h4 hy hp hm vb0 hT hF hK
  obtain ⟨o, z0, t1, _, _⟩ := tft_v (I := I) (J := J) (ri := ri) (rj := rj) (rq := rq) (U := U) (V := V) (si := si) (sj := sj) (sq := sq) (tI := tI) (tR := tR) (a := a) (mo := mo) h0 (by omega) hT hF
  -- one answer for each PERSON
  have ex : ∀ p : Nat, ∃ v : Int32, p < 40 → ∀ y : Int32, y.toInt = (p : Int) → FSV tI tR I J ri rj rq U V si sj sq a y mo 0 o v := fun p => by
    by_cases hp : p < 40
    · obtain ⟨y, hy⟩ := nI p hp
      obtain ⟨o2, v, e1, e2⟩ := one y p hy hp
      have eo : o2 = o := (Prod.mk.inj (e1.symm.trans t1)).1
      rw [eo] at e2
      exact ⟨v, fun _ y2 hy2 => by rw [show y2 = y from Int32.toInt_inj.mp (hy2.trans hy.symm)]; exact e2⟩
    · exact ⟨0, fun h => absurd h hp⟩
  obtain ⟨vv, hvv⟩ := Classical.axiomOfChoice ex
  have hK' := hK
  obtain ⟨i0, ⟨n0, n40⟩, _⟩ := hK'
  rw [g_X3_whoIsSo_e, bn_n t1]
  cases o with
  | none =>
    rw [opt1_0]
    refine ⟨asked, fun _ => true, ri, rfl, fun _ _ _ => rfl, fun p _ => by rw [Bool.and_true], fun _ _ h => h, fun y p hy hp h g => ?_⟩
    obtain ⟨h', g', e⟩ := isFor_v (hvv p hp y hy) h g
    rw [if_pos (Or.inl rfl)] at e
    exact ⟨h', g', by rw [if_pos rfl]; exact e⟩
  | some w =>
    rw [opt1_s]
    have i0n : (I 0).toInt = (si 384 5).toInt := congrArg Int32.toInt i0
    have go : ∀ (n : Nat) (s : Int64) (x : Int32) (q : Nat) (R : Nat → Nat → Int32), x.toInt = (q : Int) → q ≤ (I 0).toNatClampNeg → 40 - q < n → (∀ t, t ≠ 102 → t ≠ 103 → R t = ri t) → (∀ p, p < q → hb s p = (hb asked p && decide (vv p ≠ -1))) → (∀ p, q ≤ p → p < 64 → hb s p = false) → ∃ (so : Int64) (R2 : Nat → Nat → Int32), g_X3_whoIsSo_L22 a mo asked I J rj rq tI tR w n s x R = (so, I, J, R2, rj, rq) ∧ (∀ t, t ≠ 102 → t ≠ 103 → R2 t = ri t) ∧ (∀ p, p < (I 0).toNatClampNeg → hb so p = (hb asked p && decide (vv p ≠ -1))) ∧ ∀ p, (I 0).toNatClampNeg ≤ p → p < 64 → hb so p = false := by
      have zI := clampE (I 0)
      intro n
      induction n with
      | zero => intro _ _ _ _ _ _ h; exact absurd h (Nat.not_lt_zero _)
      | succ n ih =>
        intro s x q R hx hq hn hR hs hz
        rw [g_X3_whoIsSo_L22_e]
        simp only [↓ap1_n]
        by_cases c : I 0 ≤ x
        · have c1 := Int32.le_iff_toInt_le.mp c
          have eq : q = (I 0).toNatClampNeg := by omega
          rw [if_pos c]
          exact ⟨s, R, rfl, hR, by rw [← eq]; exact hs, by rw [← eq]; exact hz⟩
        · have c1 := Int32.lt_iff_toInt_lt.mp (Int32.not_le.mp c)
          have nx : (x + Int32.ofInt 1).toInt = ((q + 1 : Nat) : Int) := up_i hx (by omega)
          have q40 : q < 40 := by omega
          rw [if_neg c, hasBit_v (by omega) (by omega), at_n hx]
          have stepF : hb asked q = false → ∀ p, p < q + 1 → hb s p = (hb asked p && decide (vv p ≠ -1)) := fun hf p hp => by
            by_cases e : p = q
            · rw [e, hz q (Nat.le_refl _) (by omega), hf, Bool.false_and]
            · exact hs p (by omega)
          by_cases b : hb asked q = true
          · rw [if_pos b, if_neg (show ¬ (1 : Int32) = 0 by decide)]
            obtain ⟨v1, _, _, v4⟩ := hvv q q40 x hx
            obtain ⟨F, f', e1, e2⟩ := v4 w rfl R (fun t ht => hR t (by simp only [List.mem_cons, List.not_mem_nil, or_false] at ht; omega) (by simp only [List.mem_cons, List.not_mem_nil, or_false] at ht; omega))
            have hR2 : ∀ t, t ≠ 102 → t ≠ 103 → va_up (va_up R 102 F) 103 f' t = ri t := fun t h1 h2 => by rw [va_up_ne _ _ h2, va_up_ne _ _ h1]; exact hR t h1 h2
            rw [e1, bnV_mk, bn_n e2]
            by_cases d : vv q = -1
            · rw [if_pos d, g_X3_whoIsSo_K77_e]
              simp only [↓ap1_n]
              refine ih s _ (q + 1) _ nx (by omega) (by omega) hR2 (fun p hp => ?_) (fun p h1 h2 => hz p (by omega) h2)
              by_cases e : p = q
              · rw [e, hz q (Nat.le_refl _) (by omega), d]
                simp
              · exact hs p (by omega)
            · rw [if_neg d, g_X3_whoIsSo_K77_e]
              simp only [↓ap1_n]
              have hbo : ∀ j, j < 64 → hb (s ||| ((1 : Int64) <<< (x.toInt64 &&& 63))) j = (hb s j || decide (q = j)) := fun j hj => by
                rw [hb_or (by omega) (by omega) j hj, at_n hx]
              refine ih _ _ (q + 1) _ nx (by omega) (by omega) hR2 (fun p hp => ?_) (fun p h1 h2 => ?_)
              · rw [hbo p (by omega)]
                by_cases e : p = q
                · rw [e, b]
                  simp [d]
                · rw [hs p (by omega), decide_eq_false (show ¬ q = p from fun y => e y.symm), Bool.or_false]
              · rw [hbo p h2, hz p (by omega) h2, decide_eq_false (show ¬ q = p by omega)]
                rfl
          · have bf : hb asked q = false := by simpa using b
            rw [if_neg b, if_pos (show (0 : Int32) = 0 from rfl), g_X3_whoIsSo_K77_e]
            simp only [↓ap1_n]
            exact ih s _ (q + 1) R nx (by omega) (by omega) hR (stepF bf) (fun p h1 h2 => hz p (by omega) h2)
    obtain ⟨so, R2, e1, e2, e3, e4⟩ := go ((40 - ((0 : Int32)).toInt).toNat + 1) 0 0 0 ri k0 (Nat.zero_le _) (by rw [k0]; omega) (fun _ _ _ => rfl) (fun p hp => absurd hp (Nat.not_lt_zero _)) (fun p _ _ => hb_0 p)
    refine ⟨so, fun p => decide (vv p ≠ -1), R2, e1, e2, e3, fun p h1 h2 => ?_, fun y p hy hp h g => ?_⟩
    · by_cases c : p < (I 0).toNatClampNeg
      · rw [e3 p c] at h2
        exact (Bool.and_eq_true_iff.mp h2).1
      · rw [e4 p (by omega) h1] at h2
        cases h2
    · obtain ⟨h', g', e⟩ := isFor_v (hvv p hp y hy) h g
      refine ⟨h', g', ?_⟩
      rw [e]
      by_cases c : vv p = -1
      · rw [if_neg (show ¬ (some w = none ∨ vv p ≠ -1) from fun z => by
          rcases z with z | z
          · cases z
          · exact z c), if_neg (show ¬ decide (vv p ≠ -1) = true by simp [c])]
      · rw [if_pos (Or.inr c), if_pos (show decide (vv p ≠ -1) = true by simp [c])]
end PK2
/-! ===== pure: KEYS, both sides; the queue by them (behind pk2) ===== -/
section PK3
variable {I : Nat → Int32} {J : Nat → Int64} {ri : Nat → Nat → Int32} {rj : Nat → Nat → Int64} {rq : Nat → Nat → Option Nat}
variable {U : Nat → Int32} {V : Nat → Int64} {si : Nat → Nat → Int32} {sj : Nat → Nat → Int64} {sq : Nat → Nat → Option Nat}
variable {tI : Nat → Nat → Int32} {tR : Nat → Nat → Nat → Int32}
/-- what a KEY is of PERSON p -/
def kvl (A : Nat → Int32) (p : Nat) (y : Int32) : Int32 := nmv A p 0 0 (y.toInt.natAbs - 12)
/-- whether by these KEYS p comes ahead of q -/
def ahd (A : Nat → Int32) : List Int32 → Nat → Nat → Bool
  | [], _, _ => false
  | y :: E, p, q => if kvl A p y = kvl A q y then ahd A E p q else if 0 ≤ y.toInt then decide ((kvl A p y).toInt < (kvl A q y).toInt) else decide ((kvl A q y).toInt < (kvl A p y).toInt)
theorem kr_v {y : Int32} (h : KYN y) : ∃ k : Nat, k < 6 ∧ y.toInt.natAbs - 12 = k ∧ ((0 ≤ y ∧ 0 ≤ y.toInt ∧ 0 ≤ kr y ∧ ¬ kr y < 0 ∧ (kr y).toInt = (k : Int)) ∨ (¬ 0 ≤ y ∧ ¬ 0 ≤ y.toInt ∧ ¬ 0 ≤ kr y ∧ kr y < 0 ∧ ((-1 : Int32) - kr y).toInt = (k : Int))) := by
  have h' : (12 ≤ y.toInt ∧ y.toInt ≤ 17) ∨ (-17 ≤ y.toInt ∧ y.toInt ≤ -12) := h
  by_cases e0 : y.toInt = 12
  · have e : y = 12 := i32_k e0 (by decide)
    subst e
    exact ⟨0, by decide, by decide, Or.inl ⟨by decide, by decide, by decide, by decide, by decide⟩⟩
  by_cases e1 : y.toInt = 13
  · have e : y = 13 := i32_k e1 (by decide)
    subst e
    exact ⟨1, by decide, by decide, Or.inl ⟨by decide, by decide, by decide, by decide, by decide⟩⟩
  by_cases e2 : y.toInt = 14
  · have e : y = 14 := i32_k e2 (by decide)
    subst e
    exact ⟨2, by decide, by decide, Or.inl ⟨by decide, by decide, by decide, by decide, by decide⟩⟩
  by_cases e3 : y.toInt = 15
  · have e : y = 15 := i32_k e3 (by decide)
    subst e
    exact ⟨3, by decide, by decide, Or.inl ⟨by decide, by decide, by decide, by decide, by decide⟩⟩
  by_cases e4 : y.toInt = 16
  · have e : y = 16 := i32_k e4 (by decide)
    subst e
    exact ⟨4, by decide, by decide, Or.inl ⟨by decide, by decide, by decide, by decide, by decide⟩⟩
  by_cases e5 : y.toInt = 17
  · have e : y = 17 := i32_k e5 (by decide)
    subst e
    exact ⟨5, by decide, by decide, Or.inl ⟨by decide, by decide, by decide, by decide, by decide⟩⟩
  by_cases e10 : y.toInt = -12
  · have e : y = -12 := i32_k e10 (by decide)
    subst e
    exact ⟨0, by decide, by decide, Or.inr ⟨by decide, by decide, by decide, by decide, by decide⟩⟩
  by_cases e11 : y.toInt = -13
  · have e : y = -13 := i32_k e11 (by decide)
    subst e
    exact ⟨1, by decide, by decide, Or.inr ⟨by decide, by decide, by decide, by decide, by decide⟩⟩
  by_cases e12 : y.toInt = -14
  · have e : y = -14 := i32_k e12 (by decide)
    subst e
    exact ⟨2, by decide, by decide, Or.inr ⟨by decide, by decide, by decide, by decide, by decide⟩⟩
  by_cases e13 : y.toInt = -15
  · have e : y = -15 := i32_k e13 (by decide)
    subst e
    exact ⟨3, by decide, by decide, Or.inr ⟨by decide, by decide, by decide, by decide, by decide⟩⟩
  by_cases e14 : y.toInt = -16
  · have e : y = -16 := i32_k e14 (by decide)
    subst e
    exact ⟨4, by decide, by decide, Or.inr ⟨by decide, by decide, by decide, by decide, by decide⟩⟩
  by_cases e15 : y.toInt = -17
  · have e : y = -17 := i32_k e15 (by decide)
    subst e
    exact ⟨5, by decide, by decide, Or.inr ⟨by decide, by decide, by decide, by decide, by decide⟩⟩
  · exfalso
    rcases h' with h | h <;> omega
theorem kv_c {y a : Int32} {p : Nat} {A : Nat → Int32} (h : KYN y) (ha : a.toInt = (p : Int)) (h1 : ri 1 p = A (740 + 12 * p)) (h2 : ri 2 p = A (740 + 12 * p + 1)) (h3 : ri 3 p = A (740 + 12 * p + 2)) (h5 : ri 5 p = A (740 + 12 * p + 3)) : g_X0_valueOf a (if (0 : Int32) ≤ y then y else 0 - y) 0 I J ri rj rq = (kvl A p y, I, J, ri, rj, rq) := by
  have h' : (12 ≤ y.toInt ∧ y.toInt ≤ 17) ∨ (-17 ≤ y.toInt ∧ y.toInt ≤ -12) := h
  obtain ⟨v0, v1, v2, v3, v4, v5⟩ := val_v (I := I) (J := J) (ri := ri) (rj := rj) (rq := rq) (mo := 0) ha
  rw [h2] at v0
  rw [h1] at v1
  rw [h3] at v2
  rw [h5] at v3
  have n0 : nmv A p 0 0 0 = A (740 + 12 * p + 1) := rfl
  have n1 : nmv A p 0 0 1 = A (740 + 12 * p) := rfl
  have n2 : nmv A p 0 0 2 = A (740 + 12 * p + 2) := rfl
  have n3 : nmv A p 0 0 3 = A (740 + 12 * p + 3) := rfl
  have n4 : nmv A p 0 0 4 = 0 := rfl
  have n5 : nmv A p 0 0 5 = 0 := rfl
  by_cases e0 : y.toInt = 12
  · have e : y = 12 := i32_k e0 (by decide)
    subst e
    rw [show (if (0 : Int32) ≤ 12 then (12 : Int32) else 0 - 12) = 12 by decide, v0]
    unfold kvl
    rw [show (12 : Int32).toInt.natAbs - 12 = 0 by decide, n0]
  by_cases e1 : y.toInt = 13
  · have e : y = 13 := i32_k e1 (by decide)
    subst e
    rw [show (if (0 : Int32) ≤ 13 then (13 : Int32) else 0 - 13) = 13 by decide, v1]
    unfold kvl
    rw [show (13 : Int32).toInt.natAbs - 12 = 1 by decide, n1]
  by_cases e2 : y.toInt = 14
  · have e : y = 14 := i32_k e2 (by decide)
    subst e
    rw [show (if (0 : Int32) ≤ 14 then (14 : Int32) else 0 - 14) = 14 by decide, v2]
    unfold kvl
    rw [show (14 : Int32).toInt.natAbs - 12 = 2 by decide, n2]
  by_cases e3 : y.toInt = 15
  · have e : y = 15 := i32_k e3 (by decide)
    subst e
    rw [show (if (0 : Int32) ≤ 15 then (15 : Int32) else 0 - 15) = 15 by decide, v3]
    unfold kvl
    rw [show (15 : Int32).toInt.natAbs - 12 = 3 by decide, n3]
  by_cases e4 : y.toInt = 16
  · have e : y = 16 := i32_k e4 (by decide)
    subst e
    rw [show (if (0 : Int32) ≤ 16 then (16 : Int32) else 0 - 16) = 16 by decide, v4]
    unfold kvl
    rw [show (16 : Int32).toInt.natAbs - 12 = 4 by decide, n4]
  by_cases e5 : y.toInt = 17
  · have e : y = 17 := i32_k e5 (by decide)
    subst e
    rw [show (if (0 : Int32) ≤ 17 then (17 : Int32) else 0 - 17) = 17 by decide, v5]
    unfold kvl
    rw [show (17 : Int32).toInt.natAbs - 12 = 5 by decide, n5]
  by_cases e10 : y.toInt = -12
  · have e : y = -12 := i32_k e10 (by decide)
    subst e
    rw [show (if (0 : Int32) ≤ -12 then (-12 : Int32) else 0 - -12) = 12 by decide, v0]
    unfold kvl
    rw [show (-12 : Int32).toInt.natAbs - 12 = 0 by decide, n0]
  by_cases e11 : y.toInt = -13
  · have e : y = -13 := i32_k e11 (by decide)
    subst e
    rw [show (if (0 : Int32) ≤ -13 then (-13 : Int32) else 0 - -13) = 13 by decide, v1]
    unfold kvl
    rw [show (-13 : Int32).toInt.natAbs - 12 = 1 by decide, n1]
  by_cases e12 : y.toInt = -14
  · have e : y = -14 := i32_k e12 (by decide)
    subst e
    rw [show (if (0 : Int32) ≤ -14 then (-14 : Int32) else 0 - -14) = 14 by decide, v2]
    unfold kvl
    rw [show (-14 : Int32).toInt.natAbs - 12 = 2 by decide, n2]
  by_cases e13 : y.toInt = -15
  · have e : y = -15 := i32_k e13 (by decide)
    subst e
    rw [show (if (0 : Int32) ≤ -15 then (-15 : Int32) else 0 - -15) = 15 by decide, v3]
    unfold kvl
    rw [show (-15 : Int32).toInt.natAbs - 12 = 3 by decide, n3]
  by_cases e14 : y.toInt = -16
  · have e : y = -16 := i32_k e14 (by decide)
    subst e
    rw [show (if (0 : Int32) ≤ -16 then (-16 : Int32) else 0 - -16) = 16 by decide, v4]
    unfold kvl
    rw [show (-16 : Int32).toInt.natAbs - 12 = 4 by decide, n4]
  by_cases e15 : y.toInt = -17
  · have e : y = -17 := i32_k e15 (by decide)
    subst e
    rw [show (if (0 : Int32) ≤ -17 then (-17 : Int32) else 0 - -17) = 17 by decide, v5]
    unfold kvl
    rw [show (-17 : Int32).toInt.natAbs - 12 = 5 by decide, n5]
  · exfalso
    rcases h' with h | h <;> omega
/-- KEYS' place, both sides -/
theorem cl_ky {r : Nat → Nat → Int32} {W : Nat} {A : Nat → Int32} : ∀ (M : CLs) (w : Nat), CTX r M → RTX W A M w → ∀ i, i < M.length → ((r 257 i).toInt = 4 ∨ (r 257 i).toInt = 5) → ∃ (E : List Int32) (c : Nat), (r 258 i).toInt = (c : Int) ∧ (r 258 (i + 1)).toInt = ((c + E.length : Nat) : Int) ∧ (∀ j y, E[j]? = some y → r 259 (c + j) = y) ∧ E.length ≤ 4 ∧ (A (W + 1 + 12 * i + 4)).toInt = (E.length : Int) ∧ (∀ j y, E[j]? = some y → A (W + 1 + 12 * i + 5 + j) = kr y) ∧ (∀ y, y ∈ E → KYN y) ∧ c + E.length ≤ tot M
  | [], _, _, _, _, h, _ => absurd h (Nat.not_lt_zero _)
  | x :: M, w, hC, hR, i, h, h4 => by
    obtain ⟨c1, c2, c3, c4⟩ := hC
    obtain ⟨r1, r2⟩ := hR
    have hl : (x :: M).length = M.length + 1 := rfl
    have ht : tot (x :: M) = tot M + x.2.length := rfl
    by_cases q : i = M.length
    · subst q
      rw [c2] at h4
      rcases r2 with ⟨b0, _⟩ | ⟨b0, bk, b1, b2, b3, b4⟩ | ⟨b0, _⟩
      · omega
      · exact ⟨x.2, tot M, ctx_tot M c1, c3, c4, b2, b3, b4, bk, by omega⟩
      · omega
    · have hR' : ∃ w', RTX W A M w' := by
        rcases r2 with ⟨_, _, w0, b1, b2, _⟩ | ⟨_, _, b1, _⟩ | ⟨_, b1, _⟩
        · exact ⟨w0, b1⟩
        · exact ⟨w, b1⟩
        · exact ⟨w, b1⟩
      obtain ⟨w', hR'⟩ := hR'
      obtain ⟨E, c, g1, g2, g3, g4, g5, g6, g7, g8⟩ := cl_ky M w' c1 hR' i (by omega) h4
      exact ⟨E, c, g1, g2, g3, g4, g5, g6, g7, by omega⟩
/-- the class compares by KEYS -/
theorem ah_c {w p q : Nat} {a0 a2 a3 eC : Int32} {A : Nat → Int32} (hC0 : tR 258 w (a0 + 1).toNatClampNeg = eC) (h2 : a2.toInt = (p : Int)) (h3 : a3.toInt = (q : Int)) (hR : ∀ z, z = p ∨ z = q → ri 1 z = A (740 + 12 * z) ∧ ri 2 z = A (740 + 12 * z + 1) ∧ ri 3 z = A (740 + 12 * z + 2) ∧ ri 5 z = A (740 + 12 * z + 3)) : ∀ (E : List Int32) (n c : Nat) (x : Int32), E.length < n → (∀ i y, E[i]? = some y → tR 259 w (c + i) = y) → x.toInt = (c : Int) → eC.toInt = ((c + E.length : Nat) : Int) → c + E.length ≤ 300 → (∀ y, y ∈ E → KYN y) → g_X8_isAhead_L22 w a0 a2 a3 I J ri rj rq tR n x = ((if ahd A E p q = true then 1 else 0), I, J, ri, rj, rq) := by
  have k0 : (0 : Int32).toInt = 0 := by decide
  intro E
  induction E with
  | nil =>
    intro n c x hn _ hx hC c3 _
    have hl : ([] : List Int32).length = 0 := rfl
    obtain ⟨n, rfl⟩ : ∃ k, n = k + 1 := ⟨n - 1, by omega⟩
    rw [g_X8_isAhead_L22_e]
    simp only [↓ap1_n]
    rw [hC0, if_pos ((le_n hC hx).mpr (by omega)), if_neg (show ¬ ahd A [] p q = true from fun z => absurd (show false = true from z) (by decide))]
  | cons y E ih =>
    intro n c x hn hE hx hC c3 hK
    have hl : (y :: E).length = E.length + 1 := rfl
    obtain ⟨n, rfl⟩ : ∃ k, n = k + 1 := ⟨n - 1, by omega⟩
    have hc : tR 259 w c = y := by
      have := hE 0 y rfl
      rw [Nat.add_zero] at this
      exact this
    have ky := hK y (List.mem_cons_self ..)
    obtain ⟨p1, p2, p3, p4⟩ := hR p (Or.inl rfl)
    obtain ⟨q1, q2, q3, q4⟩ := hR q (Or.inr rfl)
    have ea : ahd A (y :: E) p q = (if kvl A p y = kvl A q y then ahd A E p q else if 0 ≤ y.toInt then decide ((kvl A p y).toInt < (kvl A q y).toInt) else decide ((kvl A q y).toInt < (kvl A p y).toInt)) := rfl
    have nq : ¬ eC ≤ x := fun z => by
      have := (le_n hC hx).mp z
      omega
    rw [g_X8_isAhead_L22_e]
    simp only [↓ap1_n]
    rw [hC0, if_neg nq, at_n hx, hc, bn_n (kv_c ky h2 p1 p2 p3 p4), bn_n (kv_c ky h3 q1 q2 q3 q4), g_J6_compare_7cf53_e, ea]
    by_cases e : kvl A p y = kvl A q y
    · rw [if_pos (show (if kvl A q y ≤ kvl A p y then (if kvl A p y = kvl A q y then (0 : Int32) else 1) else -1) = 0 by rw [e, if_pos (Int32.le_refl _), if_pos rfl]), if_pos e]
      exact ih n (c + 1) _ (by omega) (fun i z hz => by rw [show c + 1 + i = c + (i + 1) by omega]; exact hE (i + 1) z (by simpa using hz)) (up_i hx (by omega)) (by rw [hC]; omega) (by omega) (fun z hz => hK z (List.mem_cons_of_mem _ hz))
    · have ne : (kvl A p y).toInt ≠ (kvl A q y).toInt := fun z => e (Int32.toInt_inj.mp z)
      rw [if_neg e]
      by_cases d : kvl A q y ≤ kvl A p y
      · have d1 := Int32.le_iff_toInt_le.mp d
        rw [if_pos d, if_neg e, if_neg (show ¬ (1 : Int32) = 0 by decide), if_pos (show (0 : Int32) ≤ 1 by decide), if_neg (show ¬ (1 : Int32) ≤ 0 by decide)]
        by_cases s : (0 : Int32) ≤ y
        · have s1 := Int32.le_iff_toInt_le.mp s
          rw [k0] at s1
          rw [if_pos s, if_pos s1, decide_eq_false (show ¬ (kvl A p y).toInt < (kvl A q y).toInt by omega), if_neg Bool.false_ne_true]
        · have s1 : ¬ 0 ≤ y.toInt := fun z => s (Int32.le_iff_toInt_le.mpr (by rw [k0]; exact z))
          rw [if_neg s, if_neg s1, decide_eq_true (show (kvl A q y).toInt < (kvl A p y).toInt by omega), if_pos rfl]
      · have d1 : ¬ (kvl A q y).toInt ≤ (kvl A p y).toInt := fun z => d (Int32.le_iff_toInt_le.mpr z)
        rw [if_neg d, if_neg e, if_neg (show ¬ (-1 : Int32) = 0 by decide), if_neg (show ¬ (0 : Int32) ≤ -1 by decide), if_pos (show (-1 : Int32) ≤ 0 by decide)]
        by_cases s : (0 : Int32) ≤ y
        · have s1 := Int32.le_iff_toInt_le.mp s
          rw [k0] at s1
          rw [if_pos s, if_pos s1, decide_eq_true (show (kvl A p y).toInt < (kvl A q y).toInt by omega), if_pos rfl]
        · have s1 : ¬ 0 ≤ y.toInt := fun z => s (Int32.le_iff_toInt_le.mpr (by rw [k0]; exact z))
          rw [if_neg s, if_neg s1, decide_eq_false (show ¬ (kvl A q y).toInt < (kvl A p y).toInt by omega), if_neg Bool.false_ne_true]
/-- the MONTH of both is the same -/
theorem nm_mo {A : Nat → Int32} {p q k : Nat} {mo : Int32} : (nmv A p mo 0 k = nmv A q mo 0 k ↔ nmv A p 0 0 k = nmv A q 0 0 k) ∧ (¬ nmv A p 0 0 k = nmv A q 0 0 k → nmv A p mo 0 k = nmv A p 0 0 k ∧ nmv A q mo 0 k = nmv A q 0 0 k) := by
  by_cases c : k = 4
  · subst c
    have a : ∀ z m, nmv A z m 0 4 = m := fun _ _ => rfl
    rw [a, a, a, a]
    exact ⟨⟨fun _ => rfl, fun _ => rfl⟩, fun h => absurd rfl h⟩
  · have a : ∀ z, nmv A z mo 0 k = nmv A z 0 0 k := fun z => by
      unfold nmv
      rw [if_neg c, if_neg c]
    rw [a, a]
    exact ⟨Iff.rfl, fun _ => ⟨rfl, rfl⟩⟩
/-- the reference compares by KEYS -/
theorem ah_m {p q K L : Nat} {a0 a1 mo : Int32} (h0 : a0.toInt = (p : Int)) (h1 : a1.toInt = (q : Int)) (hp : p < 40) (hq : q < 40) (hK : (U 406).toInt = (K : Int)) (hK2 : K ≤ 100000) (hL : (si 384 (K + 4)).toInt = (L : Int)) (hL4 : L ≤ 4) : ∀ (E : List Int32) (n j : Nat) (x : Int32), E.length < n → (∀ i y, E[i]? = some y → si 384 (K + 5 + (j + i)) = kr y) → x.toInt = (j : Int) → j + E.length = L → (∀ y, y ∈ E → KYN y) → g_X12_isAhead_L3 a0 a1 mo U V si sj sq n x = ((if ahd (si 384) E p q = true then 1 else 0), U, V, si, sj, sq) := by
  have k0 : (0 : Int32).toInt = 0 := by decide
  have e4 : (U 406 + 4).toNatClampNeg = K + 4 := at_n ((i_add hK (show (4 : Int32).toInt = 4 by decide) (by omega) (by omega)).trans (by omega))
  have m5 := i_add hK (show (5 : Int32).toInt = 5 by decide) (by omega) (by omega)
  intro E
  induction E with
  | nil =>
    intro n j x hn _ hx hj _
    have hl : ([] : List Int32).length = 0 := rfl
    obtain ⟨n, rfl⟩ : ∃ k, n = k + 1 := ⟨n - 1, by omega⟩
    rw [g_X12_isAhead_L3_e]
    simp only [↓ap1_n]
    rw [e4, if_pos ((le_n hL hx).mpr (by omega)), if_neg (show ¬ ahd (si 384) [] p q = true from fun z => absurd (show false = true from z) (by decide))]
  | cons y E ih =>
    intro n j x hn hE hx hj hY
    have hl : (y :: E).length = E.length + 1 := rfl
    obtain ⟨n, rfl⟩ : ∃ k, n = k + 1 := ⟨n - 1, by omega⟩
    have nq : ¬ si 384 (K + 4) ≤ x := fun z => by
      have := (le_n hL hx).mp z
      omega
    have e5 : (U 406 + 5 + x).toNatClampNeg = K + 5 + j := at_n ((i_add m5 hx (by omega) (by omega)).trans (by omega))
    have hc : si 384 (K + 5 + j) = kr y := by
      have := hE 0 y rfl
      rw [Nat.add_zero] at this
      exact this
    have ea : ahd (si 384) (y :: E) p q = (if kvl (si 384) p y = kvl (si 384) q y then ahd (si 384) E p q else if 0 ≤ y.toInt then decide ((kvl (si 384) p y).toInt < (kvl (si 384) q y).toInt) else decide ((kvl (si 384) q y).toInt < (kvl (si 384) p y).toInt)) := rfl
    have nx : g_X12_isAhead_L3 a0 a1 mo U V si sj sq n (x + Int32.ofInt 1) = ((if ahd (si 384) E p q = true then 1 else 0), U, V, si, sj, sq) := ih n (j + 1) _ (by omega) (fun i z hz => by rw [show j + 1 + i = j + (i + 1) by omega]; exact hE (i + 1) z (by simpa using hz)) (up_i hx (by omega)) (by omega) (fun z hz => hY z (List.mem_cons_of_mem _ hz))
    obtain ⟨k, k6, kk, ks⟩ := kr_v (hY y (List.mem_cons_self ..))
    have fin : ∀ z : Int32, z.toInt = (k : Int) → (0 ≤ y.toInt ↔ ¬ kr y < 0) → g_X12_isAhead_K49 a0 a1 mo U V si sj sq x (g_X12_isAhead_L3 a0 a1 mo U V si sj sq n) (kr y) z = ((if ahd (si 384) (y :: E) p q = true then 1 else 0), U, V, si, sj, sq) := fun z hz hs => by
      have kp : kvl (si 384) p y = nmv (si 384) p 0 0 k := by
        unfold kvl
        rw [kk]
      have kq : kvl (si 384) q y = nmv (si 384) q 0 0 k := by
        unfold kvl
        rw [kk]
      have nm := nm_mo (A := si 384) (p := p) (q := q) (k := k) (mo := mo)
      rw [g_X12_isAhead_K49_e, bn_n (named_v h0 hp hz k6), bn_n (named_v h1 hq hz k6), ea, kp, kq]
      by_cases e : nmv (si 384) p 0 0 k = nmv (si 384) q 0 0 k
      · rw [if_pos (nm.1.mpr e), if_pos e]
        simp only [↓ap1_n]
        exact nx
      · have ne : (nmv (si 384) p 0 0 k).toInt ≠ (nmv (si 384) q 0 0 k).toInt := fun z => e (Int32.toInt_inj.mp z)
        rw [if_neg (fun z => e (nm.1.mp z)), if_neg e, (nm.2 e).1, (nm.2 e).2]
        by_cases d : nmv (si 384) q 0 0 k ≤ nmv (si 384) p 0 0 k
        · have d1 := Int32.le_iff_toInt_le.mp d
          rw [if_pos d, g_X12_isAhead_K92_e]
          by_cases s : kr y < 0
          · rw [if_pos s, if_neg (fun z => hs.mp z s), decide_eq_true (show (nmv (si 384) q 0 0 k).toInt < (nmv (si 384) p 0 0 k).toInt by omega), if_pos rfl, g_X12_isAhead_K102_e]
          · rw [if_neg s, if_pos (hs.mpr s), decide_eq_false (show ¬ (nmv (si 384) p 0 0 k).toInt < (nmv (si 384) q 0 0 k).toInt by omega), if_neg Bool.false_ne_true, g_X12_isAhead_K102_2_e]
        · have d1 : ¬ (nmv (si 384) q 0 0 k).toInt ≤ (nmv (si 384) p 0 0 k).toInt := fun z => d (Int32.le_iff_toInt_le.mpr z)
          rw [if_neg d, g_X12_isAhead_K92_2_e]
          by_cases s : kr y < 0
          · rw [if_pos s, if_neg (fun z => hs.mp z s), decide_eq_false (show ¬ (nmv (si 384) q 0 0 k).toInt < (nmv (si 384) p 0 0 k).toInt by omega), if_neg Bool.false_ne_true, g_X12_isAhead_K102_3_e]
          · rw [if_neg s, if_pos (hs.mpr s), decide_eq_true (show (nmv (si 384) p 0 0 k).toInt < (nmv (si 384) q 0 0 k).toInt by omega), if_pos rfl, g_X12_isAhead_K102_4_e]
    rw [g_X12_isAhead_L3_e]
    simp only [↓ap1_n]
    rw [e4, if_neg nq, e5, hc]
    rcases ks with ⟨_, s1, s2, s3, s4⟩ | ⟨_, s1, s2, s3, s4⟩
    · rw [if_pos s2]
      exact fin _ s4 ⟨fun _ => s3, fun _ => s1⟩
    · rw [if_neg s2]
      exact fin _ s4 ⟨fun z => absurd z s1, fun z => absurd s3 z⟩
/-! the order by KEYS -/
theorem ahd_as {A : Nat → Int32} : ∀ (E : List Int32) (p q : Nat), ahd A E p q = true → ahd A E q p = false
  | [], _, _, h => absurd (show false = true from h) (by decide)
  | y :: E, p, q, h => by
    have h' : (if kvl A p y = kvl A q y then ahd A E p q else if 0 ≤ y.toInt then decide ((kvl A p y).toInt < (kvl A q y).toInt) else decide ((kvl A q y).toInt < (kvl A p y).toInt)) = true := h
    show (if kvl A q y = kvl A p y then ahd A E q p else if 0 ≤ y.toInt then decide ((kvl A q y).toInt < (kvl A p y).toInt) else decide ((kvl A p y).toInt < (kvl A q y).toInt)) = false
    by_cases e : kvl A p y = kvl A q y
    · rw [if_pos e] at h'
      rw [if_pos e.symm]
      exact ahd_as E p q h'
    · rw [if_neg e] at h'
      rw [if_neg (fun z => e z.symm)]
      by_cases s : 0 ≤ y.toInt
      · rw [if_pos s] at h' ⊢
        have := of_decide_eq_true h'
        exact decide_eq_false (by omega)
      · rw [if_neg s] at h' ⊢
        have := of_decide_eq_true h'
        exact decide_eq_false (by omega)
theorem ahd_nt {A : Nat → Int32} : ∀ (E : List Int32) (p q r : Nat), ahd A E p r = true → ahd A E p q = true ∨ ahd A E q r = true
  | [], _, _, _, h => absurd (show false = true from h) (by decide)
  | y :: E, p, q, r, h => by
    have h' : (if kvl A p y = kvl A r y then ahd A E p r else if 0 ≤ y.toInt then decide ((kvl A p y).toInt < (kvl A r y).toInt) else decide ((kvl A r y).toInt < (kvl A p y).toInt)) = true := h
    show (if kvl A p y = kvl A q y then ahd A E p q else if 0 ≤ y.toInt then decide ((kvl A p y).toInt < (kvl A q y).toInt) else decide ((kvl A q y).toInt < (kvl A p y).toInt)) = true ∨ (if kvl A q y = kvl A r y then ahd A E q r else if 0 ≤ y.toInt then decide ((kvl A q y).toInt < (kvl A r y).toInt) else decide ((kvl A r y).toInt < (kvl A q y).toInt)) = true
    have ti : ∀ a b : Int32, ¬ a = b → a.toInt ≠ b.toInt := fun a b n z => n (Int32.toInt_inj.mp z)
    by_cases e1 : kvl A p y = kvl A q y
    · rw [if_pos e1]
      by_cases e2 : kvl A q y = kvl A r y
      · rw [if_pos e2]
        rw [if_pos (e1.trans e2)] at h'
        exact ahd_nt E p q r h'
      · rw [if_neg e2]
        rw [if_neg (fun z => e2 (e1.symm.trans z)), e1] at h'
        exact Or.inr h'
    · rw [if_neg e1]
      have n1 := ti _ _ e1
      by_cases e2 : kvl A q y = kvl A r y
      · rw [if_neg (fun z => e1 (z.trans e2.symm)), ← e2] at h'
        exact Or.inl h'
      · rw [if_neg e2]
        have n2 := ti _ _ e2
        by_cases e3 : kvl A p y = kvl A r y
        · by_cases s : 0 ≤ y.toInt
          · rw [if_pos s, if_pos s]
            have := congrArg Int32.toInt e3
            by_cases c : (kvl A p y).toInt < (kvl A q y).toInt
            · exact Or.inl (decide_eq_true c)
            · exact Or.inr (decide_eq_true (by omega))
          · rw [if_neg s, if_neg s]
            have := congrArg Int32.toInt e3
            by_cases c : (kvl A q y).toInt < (kvl A p y).toInt
            · exact Or.inl (decide_eq_true c)
            · exact Or.inr (decide_eq_true (by omega))
        · rw [if_neg e3] at h'
          by_cases s : 0 ≤ y.toInt
          · rw [if_pos s] at h'
            rw [if_pos s, if_pos s]
            have := of_decide_eq_true h'
            by_cases c : (kvl A p y).toInt < (kvl A q y).toInt
            · exact Or.inl (decide_eq_true c)
            · exact Or.inr (decide_eq_true (by omega))
          · rw [if_neg s] at h'
            rw [if_neg s, if_neg s]
            have := of_decide_eq_true h'
            by_cases c : (kvl A q y).toInt < (kvl A p y).toInt
            · exact Or.inl (decide_eq_true c)
            · exact Or.inr (decide_eq_true (by omega))
/-! a queue, the last one first -/
/-- a strict order in which what isn't ahead is all alike -/
def SWO (lt : Nat → Nat → Bool) : Prop := (∀ p q, lt p q = true → lt q p = false) ∧ ∀ p q r, lt p r = true → lt p q = true ∨ lt q r = true
def rins (lt : Nat → Nat → Bool) (p : Nat) : List Nat → List Nat
  | [] => [p]
  | q :: Q => if lt p q = true then q :: rins lt p Q else p :: q :: Q
def srt (lt : Nat → Nat → Bool) : Nat → List Nat
  | 0 => []
  | k + 1 => rins lt k (srt lt k)
def srtF (lt : Nat → Nat → Bool) (B : Nat → Bool) : Nat → List Nat
  | 0 => []
  | k + 1 => if B k = true then rins lt k (srtF lt B k) else srtF lt B k
def RSD (lt : Nat → Nat → Bool) : List Nat → Prop
  | [] => True
  | q :: Q => (∀ r, r ∈ Q → lt q r = false) ∧ RSD lt Q
theorem SWO_0 : SWO (fun _ _ => false) := ⟨fun _ _ h => absurd (show false = true from h) Bool.false_ne_true, fun _ _ _ h => absurd (show false = true from h) Bool.false_ne_true⟩
theorem SWO_k {A : Nat → Int32} {E : List Int32} : SWO (ahd A E) := ⟨ahd_as E, ahd_nt E⟩
section RQ
variable {lt : Nat → Nat → Bool} {B : Nat → Bool} {p : Nat}
theorem rins_m : ∀ (Q : List Nat) (r : Nat), r ∈ rins lt p Q → r = p ∨ r ∈ Q
  | [], r, h => Or.inl (List.mem_singleton.mp h)
  | q :: Q, r, h => by
    have h' : r ∈ (if lt p q = true then q :: rins lt p Q else p :: q :: Q) := h
    by_cases c : lt p q = true
    · rw [if_pos c] at h'
      rcases List.mem_cons.mp h' with e | e
      · exact Or.inr (e ▸ List.mem_cons_self ..)
      · rcases rins_m Q r e with e | e
        · exact Or.inl e
        · exact Or.inr (List.mem_cons_of_mem _ e)
    · rw [if_neg c] at h'
      rcases List.mem_cons.mp h' with e | e
      · exact Or.inl e
      · exact Or.inr e
theorem rins_l : ∀ Q : List Nat, (rins lt p Q).length = Q.length + 1
  | [] => rfl
  | q :: Q => by
    show (if lt p q = true then q :: rins lt p Q else p :: q :: Q).length = Q.length + 1 + 1
    split
    · show (rins lt p Q).length + 1 = _
      rw [rins_l Q]
    · rfl
/-- who isn't ahead of the last is ahead of none -/
theorem rs_no (hS : SWO lt) {q : Nat} {Q : List Nat} (h : RSD lt (q :: Q)) (c : lt p q = false) : ∀ r, r ∈ q :: Q → lt p r = false := fun r hr => by
  rcases List.mem_cons.mp hr with e | e
  · rw [e]; exact c
  · cases z : lt p r with
    | false => rfl
    | true =>
      rcases hS.2 p q r z with y | y
      · rw [c] at y; cases y
      · rw [h.1 r e] at y; cases y
theorem rins_s (hS : SWO lt) : ∀ Q : List Nat, RSD lt Q → RSD lt (rins lt p Q)
  | [], _ => ⟨fun r hr => (by cases hr), trivial⟩
  | q :: Q, h => by
    show RSD lt (if lt p q = true then q :: rins lt p Q else p :: q :: Q)
    by_cases c : lt p q = true
    · rw [if_pos c]
      refine ⟨fun r hr => ?_, rins_s hS Q h.2⟩
      rcases rins_m Q r hr with e | e
      · rw [e]; exact hS.1 p q c
      · exact h.1 r e
    · rw [if_neg c]
      exact ⟨rs_no hS h (by simpa using c), h⟩
theorem srt_s (hS : SWO lt) : ∀ k, RSD lt (srt lt k)
  | 0 => trivial
  | k + 1 => rins_s hS _ (srt_s hS k)
theorem rins_e : ∀ Q : List Nat, (∀ r, r ∈ Q → lt p r = false) → rins lt p Q = p :: Q
  | [], _ => rfl
  | q :: Q, h => if_neg (by rw [h q (List.mem_cons_self ..)]; decide)
theorem rins_f0 (hB : ¬ B p = true) : ∀ Q : List Nat, (rins lt p Q).filter B = Q.filter B
  | [] => by
    show List.filter B [p] = []
    rw [List.filter_cons_of_neg hB]
    rfl
  | q :: Q => by
    show List.filter B (if lt p q = true then q :: rins lt p Q else p :: q :: Q) = List.filter B (q :: Q)
    split
    · by_cases c : B q = true
      · rw [List.filter_cons_of_pos c, List.filter_cons_of_pos c, rins_f0 hB Q]
      · rw [List.filter_cons_of_neg c, List.filter_cons_of_neg c, rins_f0 hB Q]
    · rw [List.filter_cons_of_neg hB]
theorem rins_f1 (hS : SWO lt) (hB : B p = true) : ∀ Q : List Nat, RSD lt Q → rins lt p (Q.filter B) = (rins lt p Q).filter B
  | [], _ => by
    show [p] = List.filter B [p]
    rw [List.filter_cons_of_pos hB]
    rfl
  | q :: Q, h => by
    have er : rins lt p (q :: Q) = (if lt p q = true then q :: rins lt p Q else p :: q :: Q) := rfl
    rw [er]
    by_cases b : B q = true
    · rw [List.filter_cons_of_pos b]
      show (if lt p q = true then q :: rins lt p (Q.filter B) else p :: q :: Q.filter B) = _
      by_cases c : lt p q = true
      · rw [if_pos c, if_pos c, List.filter_cons_of_pos b, rins_f1 hS hB Q h.2]
      · rw [if_neg c, if_neg c, List.filter_cons_of_pos hB, List.filter_cons_of_pos b]
    · rw [List.filter_cons_of_neg b]
      by_cases c : lt p q = true
      · rw [if_pos c, List.filter_cons_of_neg b, rins_f1 hS hB Q h.2]
      · rw [if_neg c, List.filter_cons_of_pos hB, List.filter_cons_of_neg b]
        exact rins_e _ (fun r hr => rs_no hS h (by simpa using c) r (List.mem_cons_of_mem _ (List.mem_filter.mp hr).1))
theorem srtF_v (hS : SWO lt) : ∀ k, srtF lt B k = (srt lt k).filter B
  | 0 => rfl
  | k + 1 => by
    show (if B k = true then rins lt k (srtF lt B k) else srtF lt B k) = List.filter B (rins lt k (srt lt k))
    rw [srtF_v hS k]
    by_cases c : B k = true
    · rw [if_pos c, rins_f1 hS c _ (srt_s hS k)]
    · rw [if_neg c, rins_f0 c]
theorem srt_m : ∀ (k r : Nat), r ∈ srt lt k → r < k
  | 0, r, h => by cases h
  | k + 1, r, h => by
    rcases rins_m _ r h with e | e
    · omega
    · have := srt_m k r e
      omega
theorem srt_l : ∀ k : Nat, (srt lt k).length = k
  | 0 => rfl
  | k + 1 => by
    show (rins lt k (srt lt k)).length = k + 1
    rw [rins_l, srt_l k]
theorem rins_p : ∀ (Q : List Nat), p ∈ rins lt p Q
  | [] => List.mem_singleton.mpr rfl
  | q :: Q => by
    show p ∈ (if lt p q = true then q :: rins lt p Q else p :: q :: Q)
    split
    · exact List.mem_cons_of_mem _ (rins_p Q)
    · exact List.mem_cons_self ..
theorem rins_q : ∀ (Q : List Nat) (r : Nat), r ∈ Q → r ∈ rins lt p Q
  | q :: Q, r, h => by
    show r ∈ (if lt p q = true then q :: rins lt p Q else p :: q :: Q)
    split
    · rcases List.mem_cons.mp h with e | e
      · rw [e]; exact List.mem_cons_self ..
      · exact List.mem_cons_of_mem _ (rins_q Q r e)
    · exact List.mem_cons_of_mem _ h
theorem srt_all : ∀ (k r : Nat), r < k → r ∈ srt lt k
  | k + 1, r, h => by
    show r ∈ rins lt k (srt lt k)
    by_cases e : r = k
    · rw [e]; exact rins_p _
    · exact rins_q _ r (srt_all k r (by omega))
/-- the first of a queue -/
def qfi : List Nat → Option Nat
  | [] => none
  | q :: Q => match qfi Q with | none => some q | some z => some z
theorem qfi_n : ∀ {Q : List Nat}, qfi Q = none → Q = []
  | [], _ => rfl
  | q :: Q, h => by
    have h' : (match qfi Q with | none => some q | some z => some z) = none := h
    cases c : qfi Q with
    | none => rw [c] at h'; cases h'
    | some z => rw [c] at h'; cases h'
theorem qfi_m : ∀ {Q : List Nat} {z : Nat}, qfi Q = some z → z ∈ Q
  | [], z, h => by cases h
  | q :: Q, z, h => by
    have h' : (match qfi Q with | none => some q | some z => some z) = some z := h
    cases c : qfi Q with
    | none =>
      rw [c] at h'
      exact (Option.some.inj h') ▸ List.mem_cons_self ..
    | some y =>
      rw [c] at h'
      exact List.mem_cons_of_mem _ (qfi_m (c.trans h'))
theorem qfi_c {q : Nat} {Q : List Nat} : qfi (q :: Q) = (match qfi Q with | none => some q | some z => some z) := rfl
theorem rins_fi (hS : SWO lt) : ∀ Q : List Nat, RSD lt Q → qfi (rins lt p Q) = (match qfi Q with | none => some p | some z => if lt p z = true then some p else some z)
  | [], _ => rfl
  | q :: Q, h => by
    have ih := rins_fi hS Q h.2
    have er : rins lt p (q :: Q) = (if lt p q = true then q :: rins lt p Q else p :: q :: Q) := rfl
    rw [er]
    by_cases c : lt p q = true
    · rw [if_pos c, qfi_c, ih, qfi_c]
      cases d : qfi Q with
      | none => simp [c]
      | some z =>
        by_cases e : lt p z = true
        · simp [e]
        · simp [e]
    · rw [if_neg c, qfi_c]
      cases d : qfi (q :: Q) with
      | none => exact absurd (qfi_n d) (by simp)
      | some z =>
        have := rs_no hS h (by simpa using c) z (qfi_m d)
        simp [this]
end RQ
end PK3
/-! ===== pure: the queue of both sides, the heir (behind pk3) ===== -/
section PK4
variable {I : Nat → Int32} {J : Nat → Int64} {ri : Nat → Nat → Int32} {rj : Nat → Nat → Int64} {rq : Nat → Nat → Option Nat}
variable {U : Nat → Int32} {V : Nat → Int64} {si : Nat → Nat → Int32} {sj : Nat → Nat → Int64} {sq : Nat → Nat → Option Nat}
variable {tI : Nat → Nat → Int32} {tR : Nat → Nat → Nat → Int32}
/-- the class's rows hold what a PERSON is -/
def PRW (R : Nat → Nat → Int32) (A : Nat → Int32) (z : Nat) : Prop := R 1 z = A (740 + 12 * z) ∧ R 2 z = A (740 + 12 * z + 1) ∧ R 3 z = A (740 + 12 * z + 2) ∧ R 5 z = A (740 + 12 * z + 3)
theorem FLK_p {A : Nat → Int32} {p : Nat} (h : FLK I ri A) (hp : p < 40) : PRW ri A p := ⟨(h.2.2 p hp).1.1, (h.2.2 p hp).1.2.1, (h.2.2 p hp).1.2.2.1, (h.2.2 p hp).1.2.2.2.1⟩
theorem tft_w {a mo : Int32} (h0 : 0 ≤ a.toInt) (h8 : a.toInt ≤ 8) (hT : TXS I rq tI tR (si 384)) (hF : FCS I ri (si 384)) : ∃ (o : Option Nat) (y : Int32), g_X3_textFor tI tR a mo I J ri rj rq = (o, I, J, ri, rj, rq) ∧ g_X12_textFor (srC a) mo U V si sj sq = (y, U, V, si, sj, sq) ∧ ((o = none ∧ y = -1) ∨ ∃ (w t : Nat) (M : CLs), o = some w ∧ y.toInt = (t : Int) ∧ t ≤ 9 ∧ TEX1 tI tR (si 384) w t M ∧ ∃ i, i < M.length ∧ tR 257 w i = a) := by
  have n7 : (7 : Int32).toNatClampNeg = 7 := by decide
  have hF' := hF
  obtain ⟨f0, ⟨f1, f2⟩, _⟩ := hF'
  rw [g_X3_textFor_e, g_X12_textFor_e]
  simp only [↓ap1_n, n7]
  rw [f0]
  have hx : (si 384 7 - 1).toInt = (si 384 7).toInt - 1 := i_sub rfl (show (1 : Int32).toInt = 1 by decide) (by omega) (by omega)
  exact tf_sim (I := I) (J := J) (ri := ri) (rj := rj) (rq := rq) (U := U) (V := V) (si := si) (sj := sj) (sq := sq) (tI := tI) (tR := tR) (a := a) (mo := mo) h0 h8 hT hF (((si 384 7 - 1).toInt - (-1)).toNat + 1) (si 384 7 - 1) (by rw [hx]; omega) (by rw [hx]; omega) (by rw [hx]; omega)
/-- KEYS that hold: both sides compare by them, whatever else changes -/
theorem kf_v {a mo : Int32} (ha : a.toInt = 4 ∨ a.toInt = 5) (hT : TXS I rq tI tR (si 384)) (hF : FCS I ri (si 384)) : (g_X3_textFor tI tR a mo I J ri rj rq = (none, I, J, ri, rj, rq) ∧ g_X12_keysFor (srC a) mo U V si sj sq = (0, va_up U 406 (-1), V, si, sj, sq)) ∨ ∃ (w : Nat) (cl K : Int32) (E : List Int32), g_X3_textFor tI tR a mo I J ri rj rq = (some w, I, J, ri, rj, rq) ∧ g_X8_firstOf tI tR w a I J ri rj rq = (cl, I, J, ri, rj, rq) ∧ g_X12_keysFor (srC a) mo U V si sj sq = (1, va_up U 406 K, V, si, sj, sq) ∧ (∀ (R : Nat → Nat → Int32) (x y : Int32) (p q : Nat), x.toInt = (p : Int) → y.toInt = (q : Int) → PRW R (si 384) p → PRW R (si 384) q → g_X8_isAhead tI tR w cl x y I J R rj rq = ((if ahd (si 384) E p q = true then 1 else 0), I, J, R, rj, rq)) ∧ ∀ (U1 : Nat → Int32) (s : Nat → Nat → Int32) (m : Nat → Nat → Int64) (mo2 x y : Int32) (p q : Nat), U1 406 = K → s 384 = si 384 → x.toInt = (p : Int) → y.toInt = (q : Int) → p < 40 → q < 40 → g_X12_isAhead x y mo2 U1 V s m sq = ((if ahd (si 384) E p q = true then 1 else 0), U1, V, s, m, sq) := by
  have k0 : (0 : Int32).toInt = 0 := by decide
  have km : (-1 : Int32).toInt = -1 := by decide
  have a0 : 0 ≤ a.toInt := by omega
  have a8 : a.toInt ≤ 8 := by omega
  obtain ⟨o, y, t1, t2, t3⟩ := tft_w (I := I) (J := J) (ri := ri) (rj := rj) (rq := rq) (U := U) (V := V) (si := si) (sj := sj) (sq := sq) (tI := tI) (tR := tR) (a := a) (mo := mo) a0 a8 hT hF
  rcases t3 with ⟨e1, e2⟩ | ⟨w, t, M, e1, e2, e3, e4, i9, i1, i2⟩
  · refine Or.inl ⟨by rw [t1, e1], ?_⟩
    rw [g_X12_keysFor_e, bn_n t2, if_neg (show ¬ (0 : Int32) ≤ y by rw [e2]; decide)]
    simp only [↓ap1_n]
  · have hX := e4
    obtain ⟨x1, x2, x3, x4, u, x5, x6, x7⟩ := e4
    obtain ⟨y1, y2, f1, f2, f3⟩ := fo_sim (I := I) (J := J) (ri := ri) (rj := rj) (rq := rq) (U := U) (V := V) (si := si) (sj := sj) (sq := sq) (tI := tI) (tR := tR) (a := a) x1 x2 x3 e2 (by omega) (TEX1_s hX a0 a8) ((20 - (0 : Int32).toInt).toNat + 1) 0 0 k0 (Nat.zero_le _) (by rw [k0]; omega)
    have hpos : ∃ i, i < M.length ∧ y1.toInt = (i : Int) ∧ y2.toInt = ((3720 + 900 * t + 1 + 12 * i : Nat) : Int) ∧ tR 257 w i = a := by
      rcases f3 with ⟨z1, z2, z3⟩ | z
      · exfalso
        exact z3 i9 (Nat.zero_le _) i1 i2
      · exact z
    obtain ⟨i, i1, i2, i3, i4⟩ := hpos
    obtain ⟨E, c, b1, b2, b3, b4, b5, b6, b7, b8⟩ := cl_ky M u x4 x5 i i1 (by show (tR 257 w i).toInt = 4 ∨ (tR 257 w i).toInt = 5; rw [i4]; exact ha)
    have b1 : (tR 258 w i).toInt = (c : Int) := b1
    have b2 : (tR 258 w (i + 1)).toInt = ((c + E.length : Nat) : Int) := b2
    refine Or.inr ⟨w, y1, y2, E, by rw [t1, e1], ?_, ?_, fun R x y p q hx hy hp hq => ?_, fun U1 s m mo2 x y p q hU hs hx hy hp hq => ?_⟩
    · rw [g_X8_firstOf_e]
      exact f1
    · have hy0 : (0 : Int32) ≤ y := Int32.le_iff_toInt_le.mpr (by rw [k0]; omega)
      rw [g_X12_keysFor_e, bn_n t2, if_pos hy0, g_X12_firstOf_e, bn_n f2]
      simp only [↓ap1_n]
    · have n0 : ¬ y1 < 0 := fun z => by
        have := Int32.lt_iff_toInt_lt.mp z
        rw [k0] at this
        omega
      have n1 : y1 < tI 256 w := Int32.lt_iff_toInt_lt.mpr (by omega)
      have j1 : (y1 + 1).toNatClampNeg = i + 1 := at_n (upN i2 (by omega))
      rw [g_X8_isAhead_e, if_neg n0]
      simp only [↓ap1_n]
      rw [if_pos n1, at_n i2]
      exact ah_c (I := I) (J := J) (ri := R) (rj := rj) (rq := rq) (tR := tR) (A := si 384) (by rw [j1]) hx hy (fun z hz => by rcases hz with hz | hz <;> rw [hz]; exact hp; exact hq) E _ c _ (by rw [b1]; omega) b3 b1 b2 (by omega) b7
    · have hp' := ah_m (U := U1) (V := V) (si := s) (sj := m) (sq := sq) (a0 := x) (a1 := y) (mo := mo2) (p := p) (q := q) (K := 3720 + 900 * t + 1 + 12 * i) (L := E.length) hx hy hp hq (by rw [hU]; exact i3) (by omega) (by rw [hs]; exact b5) b4 E ((200 - (0 : Int32).toInt).toNat + 1) 0 0 (by rw [k0]; omega) (fun j z hz => by rw [Nat.zero_add, hs]; exact b6 j z hz) k0 (Nat.zero_add _) b7
      rw [g_X12_isAhead_e, hp', hs]
/-! the queue in a row -/
def RWq (f : Nat → Int32) : List Nat → Prop
  | [] => True
  | q :: Q => (f Q.length).toInt = (q : Int) ∧ RWq f Q
theorem RWq_u {f g : Nat → Int32} : ∀ Q : List Nat, RWq f Q → (∀ i, i < Q.length → g i = f i) → RWq g Q
  | [], _, _ => trivial
  | q :: Q, h, e => by
    have hl : (q :: Q).length = Q.length + 1 := rfl
    exact ⟨by rw [e _ (by omega)]; exact h.1, RWq_u Q h.2 (fun i hi => e i (by omega))⟩
/-- how the queue is compared: by KEYS, or not at all -/
def ltk (A : Nat → Int32) (o : Option (List Int32)) : Nat → Nat → Bool := match o with | none => fun _ _ => false | some E => ahd A E
theorem ltk_s {A : Nat → Int32} {o : Option (List Int32)} : SWO (ltk A o) := by
  cases o with
  | none => exact SWO_0
  | some E => exact SWO_k
/-- the class: one PERSON more in the queue -/
theorem li_78 {w p : Nat} {cl xi xp : Int32} {lt : Nat → Nat → Bool} {k : Int32 → (Nat → Nat → Int32) → vM} (hp : xp.toInt = (p : Int)) (hA : ∀ (f : Nat → Int32) (y : Int32) (q : Nat), y.toInt = (q : Int) → q < 40 → g_X8_isAhead tI tR w cl xp y I J (va_up ri 331 f) rj rq = ((if lt p q = true then 1 else 0), I, J, va_up ri 331 f, rj, rq)) : ∀ (Q : List Nat) (n : Nat) (x : Int32) (f : Nat → Int32), x.toInt = (Q.length : Int) → Q.length < n → Q.length ≤ 40 → RWq f Q → (∀ q, q ∈ Q → q < 40) → ∃ f' : Nat → Int32, g_X3_line_331_L78 I J rj rq tI tR w cl xi k xp n x (va_up ri 331 f) = k (xi + Int32.ofInt 1) (va_up ri 331 f') ∧ RWq f' (rins lt p Q) ∧ ∀ i, Q.length < i → f' i = f i := by
  have k0 : (0 : Int32).toInt = 0 := by decide
  intro Q
  induction Q with
  | nil =>
    intro n x f hx hn _ _ _
    have hl : ([] : List Nat).length = 0 := rfl
    obtain ⟨n, rfl⟩ : ∃ k, n = k + 1 := ⟨n - 1, by omega⟩
    rw [g_X3_line_331_L78_e, if_pos (show x ≤ 0 from Int32.le_iff_toInt_le.mpr (by rw [k0]; omega)), g_X3_line_331_K121_e]
    simp only [↓ap1_n, va_up_self, up_up]
    rw [at_n hx]
    exact ⟨_, rfl, ⟨by rw [show ([] : List Nat).length = 0 from rfl, upd_s]; exact hp, trivial⟩, fun i hi => upd_n _ _ (by omega)⟩
  | cons q Q ih =>
    intro n x f hx hn h40 hf hq
    have hl : (q :: Q).length = Q.length + 1 := rfl
    obtain ⟨n, rfl⟩ : ∃ k, n = k + 1 := ⟨n - 1, by omega⟩
    have n0 : ¬ x ≤ 0 := fun z => by
      have := Int32.le_iff_toInt_le.mp z
      rw [k0] at this
      omega
    have x1 : (x - 1).toNatClampNeg = Q.length := at_n ((i_sub hx (show (1 : Int32).toInt = 1 by decide) (by omega) (by omega)).trans (by omega))
    rw [g_X3_line_331_L78_e, if_neg n0]
    simp only [↓ap1_n, va_up_self, up_up]
    rw [x1, at_n hx, bn_n (hA f _ q hf.1 (hq q (List.mem_cons_self ..)))]
    have er : rins lt p (q :: Q) = (if lt p q = true then q :: rins lt p Q else p :: q :: Q) := rfl
    rw [er]
    by_cases c : lt p q = true
    · rw [if_pos c, if_neg (show ¬ (1 : Int32) = 0 by decide), if_pos c]
      have hx2 : (x + Int32.ofInt (-1)).toInt = (Q.length : Int) := (dn_i (by omega) (by omega)).trans (by omega)
      obtain ⟨f', g1, g2, g3⟩ := ih n (x + Int32.ofInt (-1)) (upd f (q :: Q).length (f Q.length)) hx2 (by omega) (by omega) (RWq_u Q hf.2 (fun i hi => upd_n _ _ (by omega))) (fun r hr => hq r (List.mem_cons_of_mem _ hr))
      refine ⟨f', g1, ⟨?_, g2⟩, fun i hi => ?_⟩
      · rw [rins_l, g3 _ (by omega), ← hl, upd_s]
        exact hf.1
      · rw [g3 i (by omega)]
        exact upd_n _ _ (by omega)
    · rw [if_neg c, if_pos (show (0 : Int32) = 0 from rfl), if_neg c, g_X3_line_331_K121_e]
      simp only [↓ap1_n, va_up_self, up_up]
      rw [at_n hx]
      exact ⟨_, rfl, ⟨by rw [upd_s]; exact hp, RWq_u (q :: Q) hf (fun i hi => upd_n _ _ (by omega))⟩, fun i hi => upd_n _ _ (by omega)⟩
/-- the class: all of the queue -/
theorem li_60 {w N : Nat} {cl xN : Int32} {lt : Nat → Nat → Bool} (hN : xN.toInt = (N : Int)) (hN40 : N ≤ 40) (hA : ∀ (f : Nat → Int32) (x y : Int32) (p q : Nat), x.toInt = (p : Int) → y.toInt = (q : Int) → p < 40 → q < 40 → g_X8_isAhead tI tR w cl x y I J (va_up ri 331 f) rj rq = ((if lt p q = true then 1 else 0), I, J, va_up ri 331 f, rj, rq)) : ∀ (n i : Nat) (x : Int32) (f : Nat → Int32), x.toInt = (i : Int) → 40 - i < n → (i ≤ N ∨ N = 0) → RWq f (srt lt (if N = 0 then 0 else i)) → (∀ j, i ≤ j → j < N → (f j).toInt = (j : Int)) → ∃ f' : Nat → Int32, g_X3_line_331_L60 I J rj rq xN tI tR w cl n x (va_up ri 331 f) = (I, J, va_up ri 331 f', rj, rq) ∧ RWq f' (srt lt N) := by
  intro n
  induction n with
  | zero => intro i x f _ h; exact absurd h (Nat.not_lt_zero _)
  | succ n ih =>
    intro i x f hx hn hi hf hid
    rw [g_X3_line_331_L60_e]
    by_cases c : xN ≤ x
    · have c1 := (le_n hN hx).mp c
      rw [if_pos c]
      refine ⟨f, rfl, ?_⟩
      by_cases z : N = 0
      · rw [z] at hf ⊢
        rw [if_pos rfl] at hf
        exact hf
      · rw [if_neg z, show i = N by omega] at hf
        exact hf
    · have c1 : ¬ N ≤ i := fun y => c ((le_n hN hx).mpr y)
      have z : ¬ N = 0 := by omega
      rw [if_neg z] at hf
      rw [if_neg c]
      simp only [↓ap1_n, va_up_self]
      rw [at_n hx]
      have sl := srt_l (lt := lt) i
      obtain ⟨f', g1, g2, g3⟩ := li_78 (I := I) (J := J) (ri := ri) (rj := rj) (rq := rq) (tI := tI) (tR := tR) (w := w) (cl := cl) (xi := x) (lt := lt) (p := i) (k := g_X3_line_331_L60 I J rj rq xN tI tR w cl n) (hid i (Nat.le_refl _) (by omega)) (fun f y q hy hq => hA f _ y i q (hid i (Nat.le_refl _) (by omega)) hy (by omega) hq) (srt lt i) ((x.toInt - 0).toNat + 1) x f (by rw [sl]; exact hx) (by rw [sl, hx]; omega) (by omega) hf (fun q hq => by have := srt_m i q hq; omega)
      rw [g1]
      refine ih (i + 1) _ f' (up_i hx (by omega)) (by omega) (Or.inl (by omega)) (by rw [if_neg z]; exact g2) (fun j h1 h2 => ?_)
      rw [g3 j (by omega)]
      exact hid j (by omega) h2
/-- the class's queue at first -/
theorem li_15 {a mo xN : Int32} {N : Nat} (hN : xN.toInt = (N : Int)) (hN40 : N ≤ 40) : ∀ (n i : Nat) (x : Int32) (f : Nat → Int32), x.toInt = (i : Int) → 40 - i < n → i ≤ N → (∀ j, j < i → (f j).toInt = (j : Int)) → ∃ f' : Nat → Int32, (∀ j, j < N → (f' j).toInt = (j : Int)) ∧ g_X3_line_331_L15 a mo I J rj rq xN tI tR n x (va_up ri 331 f) = (bnI (g_X3_textFor tI tR a mo I J (va_up ri 331 f') rj rq) fun (o : Option Nat) (_ : Nat → Int32) (_ : Nat → Int64) (_ : Nat → Nat → Int32) (_ : Nat → Nat → Int64) (_ : Nat → Nat → Option Nat) => opt1 o (I, J, va_up ri 331 f', rj, rq) fun (w : Nat) => bnI (g_X8_firstOf tI tR w a I J (va_up ri 331 f') rj rq) fun (c : Int32) (_ : Nat → Int32) (_ : Nat → Int64) (_ : Nat → Nat → Int32) (_ : Nat → Nat → Int64) (_ : Nat → Nat → Option Nat) => g_X3_line_331_L60 I J rj rq xN tI tR w c ((40 - ((1 : Int32)).toInt).toNat + 1) (1 : Int32) (va_up ri 331 f')) := by
  intro n
  induction n with
  | zero => intro i x f _ h; exact absurd h (Nat.not_lt_zero _)
  | succ n ih =>
    intro i x f hx hn hi hf
    rw [g_X3_line_331_L15_e]
    by_cases c : xN ≤ x
    · have c1 := (le_n hN hx).mp c
      rw [if_pos c]
      exact ⟨f, fun j hj => hf j (by omega), rfl⟩
    · have c1 : ¬ N ≤ i := fun y => c ((le_n hN hx).mpr y)
      rw [if_neg c]
      simp only [↓ap1_n, va_up_self, up_up]
      rw [at_n hx]
      refine ih (i + 1) _ (upd f i x) (up_i hx (by omega)) (by omega) (by omega) (fun j hj => ?_)
      by_cases e : j = i
      · rw [e, upd_s]; exact hx
      · rw [upd_n _ _ e]; exact hf j (by omega)
theorem RWq_id {f : Nat → Int32} : ∀ N : Nat, (∀ j, j < N → (f j).toInt = (j : Int)) → RWq f (srt (fun _ _ => false) N)
  | 0, _ => trivial
  | N + 1, h => by
    have e : srt (fun _ _ => false) (N + 1) = N :: srt (fun _ _ => false) N := rins_e _ (fun _ _ => rfl)
    rw [e]
    exact ⟨by rw [srt_l]; exact h N (Nat.lt_succ_self _), RWq_id N (fun j hj => h j (by omega))⟩
/-- the queue of the class; how the reference compares -/
theorem line_v {a mo : Int32} {N : Nat} (ha : a.toInt = 4 ∨ a.toInt = 5) (hT : TXS I rq tI tR (si 384)) (hF : FCS I ri (si 384)) (hK : FLK I ri (si 384)) (hN : (I 0).toInt = (N : Int)) : ∃ (o : Option (List Int32)) (f : Nat → Int32) (K : Int32), g_X3_line_331 tI tR a mo I J ri rj rq = (I, J, va_up ri 331 f, rj, rq) ∧ RWq f (srt (ltk (si 384) o) N) ∧ g_X12_keysFor (srC a) mo U V si sj sq = ((if o = none then 0 else 1), va_up U 406 K, V, si, sj, sq) ∧ ∀ E, o = some E → ∀ (U1 : Nat → Int32) (s : Nat → Nat → Int32) (m : Nat → Nat → Int64) (mo2 x y : Int32) (p q : Nat), U1 406 = K → s 384 = si 384 → x.toInt = (p : Int) → y.toInt = (q : Int) → p < 40 → q < 40 → g_X12_isAhead x y mo2 U1 V s m sq = ((if ahd (si 384) E p q = true then 1 else 0), U1, V, s, m, sq) := by
  have k0 : (0 : Int32).toInt = 0 := by decide
  have hK' := hK
  obtain ⟨i0, ⟨n0, n40⟩, _⟩ := hK'
  have i0n : (I 0).toInt = (si 384 5).toInt := congrArg Int32.toInt i0
  have c40 : (if (40 : Int32) < I 0 then 40 else I 0) = I 0 := if_neg (fun q => by
    have := Int32.lt_iff_toInt_lt.mp q
    have k40 : (40 : Int32).toInt = 40 := by decide
    omega)
  have pr : ∀ f p, p < 40 → PRW (va_up ri 331 f) (si 384) p := fun f p hp => by
    obtain ⟨a1, a2, a3, a4⟩ := FLK_p hK hp
    exact ⟨by rw [va_up_ne _ _ (show (1 : Nat) ≠ 331 by decide)]; exact a1, by rw [va_up_ne _ _ (show (2 : Nat) ≠ 331 by decide)]; exact a2, by rw [va_up_ne _ _ (show (3 : Nat) ≠ 331 by decide)]; exact a3, by rw [va_up_ne _ _ (show (5 : Nat) ≠ 331 by decide)]; exact a4⟩
  obtain ⟨f1, e1, e2⟩ := li_15 (I := I) (J := J) (ri := ri) (rj := rj) (rq := rq) (tI := tI) (tR := tR) (a := a) (mo := mo) hN (by omega) ((40 - (0 : Int32).toInt).toNat + 1) 0 0 (ri 331) k0 (by rw [k0]; omega) (Nat.zero_le _) (fun j hj => absurd hj (Nat.not_lt_zero _))
  rw [up_id] at e2
  rw [g_X3_line_331_e]
  simp only [↓ap1_n]
  rw [c40, e2]
  have hF1 : FCS I (va_up ri 331 f1) (si 384) := FCS_cg hF rfl (fun t ht j _ => by rw [va_up_ne _ _ (fun q : t = 331 => by rw [q] at ht; exact absurd ht (by decide))]) rfl (fun _ _ _ => rfl) (Int.le_refl _)
  rcases kf_v (I := I) (J := J) (ri := va_up ri 331 f1) (rj := rj) (rq := rq) (U := U) (V := V) (si := si) (sj := sj) (sq := sq) (tI := tI) (tR := tR) (mo := mo) ha hT hF1 with ⟨t1, t2⟩ | ⟨w, cl, K, E, t1, t2, t3, t4, t5⟩
  · refine ⟨none, f1, -1, ?_, RWq_id N e1, by rw [if_pos rfl]; exact t2, fun E h => by cases h⟩
    rw [bn_n t1, opt1_0]
  · obtain ⟨f2, g1, g2⟩ := li_60 (I := I) (J := J) (ri := ri) (rj := rj) (rq := rq) (tI := tI) (tR := tR) (w := w) (cl := cl) (xN := I 0) (lt := ahd (si 384) E) hN (by omega) (fun f x y p q hx hy hp hq => t4 _ x y p q hx hy (pr f p hp) (pr f q hq)) ((40 - (1 : Int32).toInt).toNat + 1) 1 1 f1 (by decide) (by decide) (by omega) (by
      by_cases z : N = 0
      · rw [if_pos z]; exact trivial
      · rw [if_neg z]
        exact ⟨e1 0 (by omega), trivial⟩) (fun j _ h2 => e1 j h2)
    refine ⟨some E, f2, K, ?_, g2, by rw [if_neg (by simp)]; exact t3, fun E2 h => ?_⟩
    · rw [bn_n t1, opt1_s, bn_n t2]
      exact g1
    · rw [← Option.some.inj h]
      exact t5
end PK4
/-! ===== pure: a death, both sides (behind pk4) ===== -/
section PK5
variable {I : Nat → Int32} {J : Nat → Int64} {ri : Nat → Nat → Int32} {rj : Nat → Nat → Int64} {rq : Nat → Nat → Option Nat}
variable {U : Nat → Int32} {V : Nat → Int64} {si : Nat → Nat → Int32} {sj : Nat → Nat → Int64} {sq : Nat → Nat → Option Nat}
variable {tI : Nat → Nat → Int32} {tR : Nat → Nat → Nat → Int32}
/-- who holds the TITLES -/
def HLD (I : Nat → Int32) (ri : Nat → Nat → Int32) (A : Nat → Int32) : Prop := ∀ c, c < 40 → (c < (I 65).toNatClampNeg → ri 325 c = A (100 + 16 * c + 14) ∧ (-1 ≤ (A (100 + 16 * c + 14)).toInt ∧ (A (100 + 16 * c + 14)).toInt ≤ 39)) ∧ ((I 65).toNatClampNeg ≤ c → ri 325 c = -1)
/-- the LOTS -/
def LTS (I : Nat → Int32) (ri : Nat → Nat → Int32) (A : Nat → Int32) : Prop := I 10 = A 4 ∧ (0 ≤ (A 4).toInt ∧ (A 4).toInt ≤ 5) ∧ ∀ l, l < 5 → ri 11 l = A (80 + l) ∧ (0 ≤ (A (80 + l)).toInt ∧ (A (80 + l)).toInt ≤ 60)
/-- which CELLS are DRY, how long they have been UNDER -/
def DRU (I : Nat → Int32) (J : Nat → Int64) (ri : Nat → Nat → Int32) (A : Nat → Int32) : Prop := ∀ c, c < 40 → A (100 + 16 * c + 12) = (if hb (J 67) c = true then 1 else 0) ∧ ri 77 c = A (100 + 16 * c + 11) ∧ (0 ≤ (A (100 + 16 * c + 11)).toInt ∧ (A (100 + 16 * c + 11)).toInt ≤ (A 0).toInt) ∧ ((I 65).toNatClampNeg ≤ c → hb (J 67) c = false)
section CG
variable {I1 : Nat → Int32} {J1 : Nat → Int64} {r1 : Nat → Nat → Int32} {A A1 : Nat → Int32}
theorem FLK_cg (h : FLK I ri A) (h0 : I1 0 = I 0) (hr : ∀ t, t ∈ [1, 2, 3, 4, 5, 9] → ∀ p, p < 40 → r1 t p = ri t p) (h5 : A1 5 = A 5) (hA : ∀ p k, p < 40 → k ∈ [0, 1, 2, 3, 4, 8] → A1 (740 + 12 * p + k) = A (740 + 12 * p + k)) : FLK I1 r1 A1 := by
  obtain ⟨a, b, c⟩ := h
  refine ⟨h0.trans (a.trans h5.symm), by rw [h5]; exact b, fun p hp => ?_⟩
  have e0 : A1 (740 + 12 * p) = A (740 + 12 * p) := hA p 0 hp (by decide)
  rw [hr 1 (by decide) p hp, hr 2 (by decide) p hp, hr 3 (by decide) p hp, hr 5 (by decide) p hp, hr 4 (by decide) p hp, hr 9 (by decide) p hp, e0, hA p 1 hp (by decide), hA p 2 hp (by decide), hA p 3 hp (by decide), hA p 4 hp (by decide), hA p 8 hp (by decide)]
  exact c p hp
theorem HLD_cg (h : HLD I ri A) (h65 : I1 65 = I 65) (hr : ∀ c, c < 40 → r1 325 c = ri 325 c) (hA : ∀ c, c < 40 → A1 (100 + 16 * c + 14) = A (100 + 16 * c + 14)) : HLD I1 r1 A1 := fun c hc => by
  rw [h65, hr c hc, hA c hc]
  exact h c hc
theorem LTS_cg (h : LTS I ri A) (h10 : I1 10 = I 10) (hr : ∀ l, l < 5 → r1 11 l = ri 11 l) (h4 : A1 4 = A 4) (hA : ∀ l, l < 5 → A1 (80 + l) = A (80 + l)) : LTS I1 r1 A1 := by
  obtain ⟨a, b, c⟩ := h
  refine ⟨h10.trans (a.trans h4.symm), by rw [h4]; exact b, fun l hl => ?_⟩
  rw [hr l hl, hA l hl]
  exact c l hl
theorem DRU_cg (h : DRU I J ri A) (h65 : I1 65 = I 65) (hJ : ∀ c, c < 40 → hb (J1 67) c = hb (J 67) c) (hr : ∀ c, c < 40 → r1 77 c = ri 77 c) (h0 : A1 0 = A 0) (hA : ∀ c k, c < 40 → k ∈ [11, 12] → A1 (100 + 16 * c + k) = A (100 + 16 * c + k)) : DRU I1 J1 r1 A1 := fun c hc => by
  rw [h65, hJ c hc, hr c hc, h0, hA c 11 hc (by decide), hA c 12 hc (by decide)]
  exact h c hc
/-- a PERSON goes to another PLACE -/
theorem FLK_3 {p : Nat} {v : Int32} (h : FLK I ri A) (hp : p < 40) (hv : (0 ≤ v.toInt ∧ v.toInt ≤ 300) ∧ (v.toInt < 5 ∨ 100 ≤ v.toInt)) : FLK I (va_up ri 5 (upd (ri 5) p v)) (upd A (740 + 12 * p + 3) v) := by
  obtain ⟨a, b, c⟩ := h
  have o : ∀ t, t ≠ 5 → va_up ri 5 (upd (ri 5) p v) t = ri t := fun t ht => va_up_ne _ _ ht
  refine ⟨by rw [upd_n _ _ (by omega)]; exact a, by rw [upd_n _ _ (by omega)]; exact b, fun q hq => ?_⟩
  obtain ⟨⟨c1, c2, c3, c4, c5, c6⟩, d1, d2, d3, d4⟩ := c q hq
  rw [o 1 (by decide), o 2 (by decide), o 3 (by decide), o 4 (by decide), o 9 (by decide), va_up_self, upd_n A v (show 740 + 12 * q ≠ 740 + 12 * p + 3 by omega), upd_n A v (show 740 + 12 * q + 1 ≠ 740 + 12 * p + 3 by omega), upd_n A v (show 740 + 12 * q + 2 ≠ 740 + 12 * p + 3 by omega), upd_n A v (show 740 + 12 * q + 4 ≠ 740 + 12 * p + 3 by omega), upd_n A v (show 740 + 12 * q + 8 ≠ 740 + 12 * p + 3 by omega)]
  by_cases e : q = p
  · rw [e, upd_s, upd_s]
    rw [e] at c1 c2 c3 c4 c5 c6 d1 d2 d3 d4
    exact ⟨⟨c1, c2, c3, rfl, c5, c6⟩, d1, d2, d3, hv⟩
  · rw [upd_n (ri 5) v e, upd_n A v (show 740 + 12 * q + 3 ≠ 740 + 12 * p + 3 by omega)]
    exact ⟨⟨c1, c2, c3, c4, c5, c6⟩, d1, d2, d3, d4⟩
end CG
/-! the first of the queue -/
def dl (g : Nat → Nat) : Nat → List Nat
  | 0 => []
  | k + 1 => g k :: dl g k
theorem RWq_dl {f : Nat → Int32} : ∀ L : List Nat, RWq f L → L = dl (fun j => (f j).toInt.toNat) L.length
  | [], _ => rfl
  | q :: Q, h => by
    show q :: Q = (f Q.length).toInt.toNat :: dl (fun j => (f j).toInt.toNat) Q.length
    rw [← RWq_dl Q h.2, h.1]
    rfl
theorem RWq_at {f : Nat → Int32} : ∀ (L : List Nat) (j : Nat), RWq f L → j < L.length → 0 ≤ (f j).toInt ∧ (f j).toInt.toNat ∈ L
  | [], _, _, h => absurd h (Nat.not_lt_zero _)
  | q :: Q, j, h, hj => by
    have hl : (q :: Q).length = Q.length + 1 := rfl
    by_cases e : j = Q.length
    · rw [e, h.1]
      exact ⟨Int.natCast_nonneg _, List.mem_cons_self ..⟩
    · obtain ⟨a, b⟩ := RWq_at Q j h.2 (by omega)
      exact ⟨a, List.mem_cons_of_mem _ b⟩
theorem qf_0 {g : Nat → Nat} {B : Nat → Bool} : ∀ N : Nat, (∀ j, j < N → ¬ B (g j) = true) → (dl g N).filter B = []
  | 0, _ => rfl
  | N + 1, h => by
    show List.filter B (g N :: dl g N) = []
    rw [List.filter_cons_of_neg (h N (Nat.lt_succ_self _))]
    exact qf_0 N (fun j hj => h j (by omega))
theorem qf_1 {g : Nat → Nat} {B : Nat → Bool} {i : Nat} (hi : B (g i) = true) (h : ∀ j, j < i → ¬ B (g j) = true) : ∀ N : Nat, i < N → qfi ((dl g N).filter B) = some (g i)
  | 0, h0 => absurd h0 (Nat.not_lt_zero _)
  | N + 1, h0 => by
    show qfi (List.filter B (g N :: dl g N)) = some (g i)
    by_cases e : i = N
    · subst e
      rw [List.filter_cons_of_pos hi, qf_0 i h]
      rfl
    · have ih := qf_1 hi h N (by omega)
      by_cases b : B (g N) = true
      · rw [List.filter_cons_of_pos b, qfi_c, ih]
      · rw [List.filter_cons_of_neg b]
        exact ih
theorem srtF_s {lt : Nat → Nat → Bool} {B : Nat → Bool} (hS : SWO lt) : ∀ k, RSD lt (srtF lt B k)
  | 0 => trivial
  | k + 1 => by
    show RSD lt (if B k = true then rins lt k (srtF lt B k) else srtF lt B k)
    split
    · exact rins_s hS _ (srtF_s hS k)
    · exact srtF_s hS k
/-- v is the first of the queue, or -1 without -/
def QF (v : Int32) (o : Option Nat) : Prop := (v = -1 ∧ o = none) ∨ ∃ z : Nat, z < 40 ∧ v.toInt = (z : Int) ∧ o = some z
theorem QF_u {v w : Int32} {o : Option Nat} (h1 : QF v o) (h2 : QF w o) : v = w := by
  rcases h1 with ⟨a, b⟩ | ⟨z, _, a, b⟩ <;> rcases h2 with ⟨c, d⟩ | ⟨y, _, c, d⟩
  · rw [a, c]
  · rw [b] at d; cases d
  · rw [b] at d; cases d
  · rw [b] at d
    have := Option.some.inj d
    subst this
    exact Int32.toInt_inj.mp (a.trans c.symm)
theorem QF_b {v : Int32} {o : Option Nat} (h : QF v o) : -1 ≤ v.toInt ∧ v.toInt ≤ 39 := by
  rcases h with ⟨a, _⟩ | ⟨z, h1, h2, _⟩
  · rw [a]; decide
  · omega
/-- the class seeks the heir -/
theorem hl_22 {a0 : Int32} {N : Nat} {R : Nat → Nat → Int32} {g : Nat → Nat} {B : Nat → Bool} (hN : (I 0).toInt = (N : Int)) (hN40 : N ≤ 40) (hg : ∀ j, j < N → (R 331 j).toInt = (g j : Int) ∧ g j < 40) (hB : ∀ j, j < N → (B (g j) = true ↔ (R 1 (g j) = R 1 a0.toNatClampNeg ∧ R 5 (g j) ≠ 300))) : ∀ (n i : Nat) (x : Int32), x.toInt = (i : Int) → 40 - i < n → i ≤ N → (∀ j, j < i → ¬ B (g j) = true) → ∃ v : Int32, g_X10_heirOf_L22 a0 I J rj rq R n x = (v, I, J, R, rj, rq) ∧ QF v (qfi ((dl g N).filter B)) := by
  intro n
  induction n with
  | zero => intro i x _ h; exact absurd h (Nat.not_lt_zero _)
  | succ n ih =>
    intro i x hx hn hi hb0
    rw [g_X10_heirOf_L22_e]
    simp only [↓ap1_n, g_X10_heirOf_K78]
    by_cases c : I 0 ≤ x
    · have c1 := (le_n hN hx).mp c
      rw [if_pos c]
      refine ⟨-1, rfl, Or.inl ⟨rfl, ?_⟩⟩
      rw [qf_0 N (fun j hj => hb0 j (by omega))]
      rfl
    · have c1 : ¬ N ≤ i := fun y => c ((le_n hN hx).mpr y)
      obtain ⟨g1, g2⟩ := hg i (by omega)
      have nx := up_i hx (by omega)
      have hBi := hB i (by omega)
      rw [if_neg c, at_n hx, at_n g1]
      have next : ¬ B (g i) = true → ∃ v : Int32, g_X10_heirOf_L22 a0 I J rj rq R n (x + Int32.ofInt 1) = (v, I, J, R, rj, rq) ∧ QF v (qfi ((dl g N).filter B)) := fun hno => ih (i + 1) _ nx (by omega) (by omega) (fun j hj => by
        by_cases e : j = i
        · rw [e]; exact hno
        · exact hb0 j (by omega))
      by_cases k : R 1 (g i) = R 1 a0.toNatClampNeg
      · rw [if_pos k]
        by_cases d : R 5 (g i) = 300
        · rw [if_pos d]
          exact next (fun y => (hBi.mp y).2 d)
        · rw [if_neg d]
          exact ⟨_, rfl, Or.inr ⟨g i, g2, g1, qf_1 (hBi.mpr ⟨k, d⟩) hb0 N (by omega)⟩⟩
      · rw [if_neg k]
        exact next (fun y => k (hBi.mp y).1)
/-- the reference seeks the heir -/
theorem hm_58 {a0 y1 : Int32} {N P : Nat} {r1 : Nat → Nat → Int32} {I1 : Nat → Int32} {o : Option (List Int32)} {B : Nat → Bool} (ha : a0.toInt = (P : Int)) (hP : P < 40) (hN : (si 384 5).toInt = (N : Int)) (hN40 : N ≤ 40) (hB : ∀ p, p < N → (B p = true ↔ (r1 384 (740 + 12 * p) = r1 384 (740 + 12 * P) ∧ r1 384 (740 + 12 * p + 3) ≠ 300))) (hA : ∀ E, o = some E → ∀ (x y : Int32) (p q : Nat), x.toInt = (p : Int) → y.toInt = (q : Int) → p < 40 → q < 40 → g_X12_isAhead x y y1 I1 V r1 sj sq = ((if ahd (r1 384) E p q = true then 1 else 0), I1, V, r1, sj, sq)) : ∀ (n k : Nat) (x2 x1 : Int32), x2.toInt = (k : Int) → 40 - k < n → k ≤ N → QF x1 (qfi (srtF (ltk (r1 384) o) B k)) → ∃ v : Int32, g_X12_death_L58 a0 V si sj sq r1 y1 I1 (if o = none then 0 else 1) n x1 x2 = g_X12_death_L140 a0 V si sj sq I1 v ((40 - ((0 : Int32)).toInt).toNat + 1) (0 : Int32) (0 : Int32) r1 ∧ QF v (qfi (srtF (ltk (r1 384) o) B N)) := by
  have k0 : (0 : Int32).toInt = 0 := by decide
  intro n
  induction n with
  | zero => intro k _ _ _ h; exact absurd h (Nat.not_lt_zero _)
  | succ n ih =>
    intro k x2 x1 hx hn hk hq
    rw [g_X12_death_L58_e]
    simp only [↓ap1_n, g_X12_death_K125, g_X12_death_K128]
    by_cases c : si 384 5 ≤ x2
    · have c1 := (le_n hN hx).mp c
      rw [if_pos c]
      exact ⟨x1, rfl, by rw [show N = k by omega]; exact hq⟩
    · have c1 : ¬ N ≤ k := fun y => c ((le_n hN hx).mpr y)
      have nx := up_i hx (by omega)
      have hBk := hB k (by omega)
      have es : srtF (ltk (r1 384) o) B (k + 1) = (if B k = true then rins (ltk (r1 384) o) k (srtF (ltk (r1 384) o) B k) else srtF (ltk (r1 384) o) B k) := rfl
      have fi := rins_fi (p := k) (ltk_s (A := r1 384) (o := o)) _ (srtF_s (B := B) (ltk_s (A := r1 384) (o := o)) k)
      have no : ¬ B k = true → ∃ v : Int32, g_X12_death_L58 a0 V si sj sq r1 y1 I1 (if o = none then 0 else 1) n x1 (x2 + Int32.ofInt 1) = g_X12_death_L140 a0 V si sj sq I1 v ((40 - ((0 : Int32)).toInt).toNat + 1) (0 : Int32) (0 : Int32) r1 ∧ QF v (qfi (srtF (ltk (r1 384) o) B N)) := fun hno => ih (k + 1) _ _ nx (by omega) (by omega) (by rw [es, if_neg hno]; exact hq)
      rw [if_neg c, bn_n (pa0 (si := r1) hx (by omega)), bn_n (pa0 (si := r1) ha hP)]
      by_cases e1 : r1 384 (740 + 12 * k) = r1 384 (740 + 12 * P)
      · rw [if_pos e1, bn_n (pa3 (si := r1) hx (by omega))]
        by_cases e2 : r1 384 (740 + 12 * k + 3) = 300
        · rw [if_pos e2]
          exact no (fun y => (hBk.mp y).2 e2)
        · have hb1 : B k = true := hBk.mpr ⟨e1, e2⟩
          have yes : QF x2 (qfi (srtF (ltk (r1 384) o) B (k + 1))) → ∃ v : Int32, g_X12_death_L58 a0 V si sj sq r1 y1 I1 (if o = none then 0 else 1) n x2 (x2 + Int32.ofInt 1) = g_X12_death_L140 a0 V si sj sq I1 v ((40 - ((0 : Int32)).toInt).toNat + 1) (0 : Int32) (0 : Int32) r1 ∧ QF v (qfi (srtF (ltk (r1 384) o) B N)) := fun h => ih (k + 1) _ _ nx (by omega) (by omega) h
          have stay : QF x1 (qfi (srtF (ltk (r1 384) o) B (k + 1))) → ∃ v : Int32, g_X12_death_L58 a0 V si sj sq r1 y1 I1 (if o = none then 0 else 1) n x1 (x2 + Int32.ofInt 1) = g_X12_death_L140 a0 V si sj sq I1 v ((40 - ((0 : Int32)).toInt).toNat + 1) (0 : Int32) (0 : Int32) r1 ∧ QF v (qfi (srtF (ltk (r1 384) o) B N)) := fun h => ih (k + 1) _ _ nx (by omega) (by omega) h
          rw [if_neg e2]
          rcases hq with ⟨q1, q2⟩ | ⟨z, z1, z2, z3⟩
          · rw [if_pos (show x1 < 0 by rw [q1]; decide)]
            refine yes ?_
            rw [es, if_pos hb1, fi, q2]
            exact Or.inr ⟨k, by omega, hx, rfl⟩
          · have nz : ¬ x1 < 0 := fun y => by
              have := Int32.lt_iff_toInt_lt.mp y
              rw [k0] at this
              omega
            rw [if_neg nz]
            rw [z3] at fi
            have fi : qfi (rins (ltk (r1 384) o) k (srtF (ltk (r1 384) o) B k)) = (if ltk (r1 384) o k z = true then some k else some z) := fi
            cases ho : o with
            | none =>
              rw [ho] at fi es stay
              rw [if_pos (show (if (none : Option (List Int32)) = none then (0 : Int32) else 1) = 0 by rw [if_pos rfl])]
              refine stay ?_
              rw [es, if_pos hb1, fi]
              exact Or.inr ⟨z, z1, z2, if_neg Bool.false_ne_true⟩
            | some E =>
              rw [ho] at fi es stay yes
              rw [if_neg (show ¬ (if (some E : Option (List Int32)) = none then (0 : Int32) else 1) = 0 by rw [if_neg (by simp)]; decide), bn_n (hA E ho x2 x1 k z hx z2 (by omega) z1)]
              have fi : qfi (rins (ltk (r1 384) (some E)) k (srtF (ltk (r1 384) (some E)) B k)) = (if ahd (r1 384) E k z = true then some k else some z) := fi
              by_cases l : ahd (r1 384) E k z = true
              · rw [if_pos l, if_neg (show ¬ (1 : Int32) = 0 by decide)]
                refine yes ?_
                rw [es, if_pos hb1, fi, if_pos l]
                exact Or.inr ⟨k, by omega, hx, rfl⟩
              · rw [if_neg l, if_pos (show (0 : Int32) = 0 from rfl)]
                refine stay ?_
                rw [es, if_pos hb1, fi, if_neg l]
                exact Or.inr ⟨z, z1, z2, rfl⟩
      · rw [if_neg e1]
        exact no (fun y => e1 (hBk.mp y).1)
/-- TITLES pass, on both sides -/
theorem pt_sim {a0 v : Int32} {N : Nat} {I1 : Nat → Int32} (hv : -1 ≤ v.toInt ∧ v.toInt ≤ 39) (hI : (I 65).toInt = (N : Int)) (hS : (si 384 2).toInt = (N : Int)) (hN : N ≤ 40) : ∀ (n c : Nat) (x cnt : Int32) (R s : Nat → Nat → Int32), x.toInt = (c : Int) → 40 - c < n → c ≤ N → HLD I R (s 384) → ∃ (z : Int32) (R' s' : Nat → Nat → Int32), g_X10_passTitles_L5 a0 v I J rj rq n cnt x R = (z, I, J, R', rj, rq) ∧ g_X12_death_L140 a0 V si sj sq I1 v n cnt x s = (z, I1, V, s', sj, sq) ∧ HLD I R' (s' 384) ∧ (∀ t, t ≠ 325 → R' t = R t) ∧ (∀ t, t ≠ 384 → s' t = s t) ∧ ∀ i, (∀ c, c < 40 → i ≠ 100 + 16 * c + 14) → s' 384 i = s 384 i := by
  intro n
  induction n with
  | zero => intro c _ _ _ _ _ h; exact absurd h (Nat.not_lt_zero _)
  | succ n ih =>
    intro c x cnt R s hx hn hc hH
    rw [g_X10_passTitles_L5_e, g_X12_death_L140_e]
    simp only [↓ap1_n, g_X10_passTitles_K39, g_X12_death_K186]
    by_cases d : I 65 ≤ x
    · have d1 := (le_n hI hx).mp d
      rw [if_pos d, if_pos ((le_n hS hx).mpr d1)]
      exact ⟨cnt, R, s, rfl, rfl, hH, fun _ _ => rfl, fun _ _ => rfl, fun _ _ => rfl⟩
    · have d1 : ¬ N ≤ c := fun y => d ((le_n hI hx).mpr y)
      have nx := up_i hx (by omega)
      have i14 : ((100 : Int32) + (16 : Int32) * x + 14).toNatClampNeg = 100 + 16 * c + 14 := by rw [ixk (c := x) (k := 14) 14 (by decide) (by decide) (by omega) (by omega), at_n hx]
      have e14 : g_X12_cellAt_c14 x I1 V s sj sq = (s 384 (100 + 16 * c + 14), I1, V, s, sj, sq) := by
        rw [g_X12_cellAt_c14_e]
        simp only [↓ap1_n]
        rw [i14]
      rw [if_neg d, if_neg (fun y => d1 ((le_n hS hx).mp y)), at_n hx, bn_n e14, ((hH c (by omega)).1 (by rw [at_n hI]; omega)).1]
      by_cases q : s 384 (100 + 16 * c + 14) = a0
      · rw [if_pos q, if_pos q, i14]
        obtain ⟨z, R', s', g1, g2, g3, g4, g5, g6⟩ := ih (c + 1) (x + Int32.ofInt 1) (cnt + Int32.ofInt 1) (va_up R 325 (upd (R 325) c v)) (va_up s 384 (upd (s 384) (100 + 16 * c + 14) v)) nx (by omega) (by omega) (fun c2 h2 => by
          rw [va_up_self, va_up_self]
          by_cases e : c2 = c
          · rw [e, upd_s, upd_s]
            exact ⟨fun _ => ⟨rfl, hv⟩, fun y => by rw [at_n hI] at y; omega⟩
          · rw [upd_n _ _ e, upd_n _ _ (by omega)]
            exact hH c2 h2)
        refine ⟨z, R', s', g1, g2, g3, fun t ht => (g4 t ht).trans (va_up_ne _ _ ht), fun t ht => (g5 t ht).trans (va_up_ne _ _ ht), fun i hi => ?_⟩
        rw [g6 i hi, va_up_self, upd_n _ _ (hi c (by omega))]
      · rw [if_neg q, if_neg q]
        exact ih (c + 1) _ cnt R s nx (by omega) (by omega) hH
/-- answer and PERSONS and TITLES -/
def FH (b c : Int32 × vM) : Prop := b.1 = c.1 ∧ FLK b.2.1 b.2.2.2.1 (c.2.2.2.1 384) ∧ HLD b.2.1 b.2.2.2.1 (c.2.2.2.1 384)
theorem death_F {a0 : Int32} (h : RSL I ri (si 384)) (hT : TXS I rq tI tR (si 384)) (hF : FCS I ri (si 384)) (hK : FLK I ri (si 384)) (hH : HLD I ri (si 384)) : FH (g_X11_death tI tR a0 I J ri rj rq) (g_X12_death a0 U V si sj sq) := by
  have k0 : (0 : Int32).toInt = 0 := by decide
  obtain ⟨⟨_, ⟨c0, c4⟩, _⟩, ⟨_, ⟨p0, p4⟩, _⟩, ⟨e0, _, e2, _⟩, _⟩ := h
  have e5 := hK.1
  by_cases q1 : bt a0 0 (I 0 - 1) = 0
  · have c1 : g_X11_death tI tR a0 I J ri rj rq = (-1, I, J, ri, rj, rq) := by
      rw [g_X11_death_e, isPerson_c, bnI_mk, if_pos q1]; rfl
    have c2 : g_X12_death a0 U V si sj sq = (-1, U, V, si, sj, sq) := by
      rw [g_X12_death_e, isPerson_m, bnI_mk, if_pos (by rw [← e5]; exact q1)]; rfl
    unfold FH
    rw [c1, c2]
    exact ⟨rfl, hK, hH⟩
  · have b := bt_cell (n := I 0) (by rw [e5]; exact p0) (by rw [e5]; exact p4) q1
    have a39 : a0.toInt ≤ 39 := by rw [e5] at b; omega
    obtain ⟨P, hP⟩ : ∃ P : Nat, a0.toInt = (P : Int) := ⟨a0.toInt.toNat, by omega⟩
    have P40 : P < 40 := by omega
    have q3 : bt a0 0 (si 384 5 - 1) ≠ 0 := by rw [← e5]; exact q1
    have e3 : ri 5 P = si 384 (740 + 12 * P + 3) := (hK.2.2 P P40).1.2.2.2.1
    by_cases q2 : ri 5 a0.toNatClampNeg = 300
    · have c1 : g_X11_death tI tR a0 I J ri rj rq = (-1, I, J, ri, rj, rq) := by
        rw [g_X11_death_e, isPerson_c, bnI_mk, if_neg q1]
        simp only [↓ap1_n]
        rw [if_pos q2]; rfl
      have c2 : g_X12_death a0 U V si sj sq = (-1, U, V, si, sj, sq) := by
        rw [at_n hP, e3] at q2
        rw [g_X12_death_e, isPerson_m, bnI_mk, if_neg q3, bn_n (pa3 hP P40), if_pos q2]; rfl
      unfold FH
      rw [c1, c2]
      exact ⟨rfl, hK, hH⟩
    · rw [at_n hP] at q2
      obtain ⟨N, hN⟩ : ∃ N : Nat, (si 384 5).toInt = (N : Int) := ⟨(si 384 5).toInt.toNat, by omega⟩
      have N40 : N ≤ 40 := by omega
      have hI0 : (I 0).toInt = (N : Int) := by rw [e5]; exact hN
      obtain ⟨C, hC⟩ : ∃ C : Nat, (I 65).toInt = (C : Int) := ⟨(I 65).toInt.toNat, by omega⟩
      -- dead
      have hK1 := FLK_3 (p := P) (v := 300) hK P40 (by decide)
      generalize eR : va_up ri 5 (upd (ri 5) P 300) = R at hK1
      generalize eA : upd (si 384) (740 + 12 * P + 3) 300 = A at hK1
      have aA : ∀ i, (∀ p, p < 40 → i ≠ 740 + 12 * p + 3) → A i = si 384 i := fun i hi => by rw [← eA, upd_n _ _ (hi P P40)]
      have oR : ∀ t, t ≠ 5 → R t = ri t := fun t ht => by rw [← eR, va_up_ne _ _ ht]
      have hT1 : TXS I rq tI tR (va_up si 384 A 384) := by
        rw [va_up_self]
        refine TXS_cg hT rfl (fun _ _ => rfl) (fun _ _ _ _ => ⟨rfl, fun _ _ => rfl⟩) (fun j hj => aA j (fun p hp => ?_))
        rcases lz_x hj with y | y <;> omega
      have hF1 : FCS I R (va_up si 384 A 384) := by
        rw [va_up_self]
        refine FCS_cg hF rfl (fun t ht j _ => by rw [oR t (fun q : t = 5 => by rw [q] at ht; exact absurd ht (by decide))]) (aA 7 (fun p hp => by omega)) (fun i h1 h2 => aA i (fun p hp => by omega)) ?_
        rw [aA 6 (fun p hp => by omega)]
        exact Int.le_refl _
      have hK2 : FLK I R (va_up si 384 A 384) := by rw [va_up_self]; exact hK1
      obtain ⟨o, f, K, l1, l2, l3, l4⟩ := line_v (I := I) (J := J) (ri := R) (rj := rj) (rq := rq) (U := U) (V := V) (si := va_up si 384 A) (sj := sj) (sq := sq) (tI := tI) (tR := tR) (a := 5) (mo := si 384 0) (N := N) (Or.inr (by decide)) hT1 hF1 hK2 hI0
      rw [show srC 5 = 6 by decide] at l3
      have B := fun p : Nat => decide (A (740 + 12 * p) = A (740 + 12 * P) ∧ A (740 + 12 * p + 3) ≠ 300)
      -- the class's heir
      have sl := srt_l (lt := ltk A o) N
      rw [va_up_self] at l2 l4
      have L := RWq_dl _ l2
      rw [sl] at L
      have hB1 : ∀ z, z < 40 → (decide (A (740 + 12 * z) = A (740 + 12 * P) ∧ A (740 + 12 * z + 3) ≠ 300) = true ↔ (va_up R 331 f 1 z = va_up R 331 f 1 a0.toNatClampNeg ∧ va_up R 331 f 5 z ≠ 300)) := fun z hz => by
        obtain ⟨x1, _, _, x4, _⟩ := (hK1.2.2 z hz).1
        obtain ⟨y1, _⟩ := (hK1.2.2 P P40).1
        rw [va_up_ne _ _ (show (1 : Nat) ≠ 331 by decide), va_up_ne _ _ (show (5 : Nat) ≠ 331 by decide), at_n hP, x1, x4, y1]
        exact decide_eq_true_iff
      obtain ⟨v, v1, v2⟩ := hl_22 (I := I) (J := J) (rj := rj) (rq := rq) (a0 := a0) (N := N) (R := va_up R 331 f) (g := fun j => (f j).toInt.toNat) (B := fun p => decide (A (740 + 12 * p) = A (740 + 12 * P) ∧ A (740 + 12 * p + 3) ≠ 300)) hI0 N40 (fun j hj => by
        obtain ⟨x1, x2⟩ := RWq_at _ j l2 (by rw [sl]; exact hj)
        have x3 := srt_m _ _ x2
        rw [va_up_self]
        exact ⟨by omega, by omega⟩) (fun j hj => by
        obtain ⟨x1, x2⟩ := RWq_at _ j l2 (by rw [sl]; exact hj)
        have x3 := srt_m _ _ x2
        exact hB1 _ (by omega)) ((40 - (0 : Int32).toInt).toNat + 1) 0 0 k0 (by rw [k0]; omega) (Nat.zero_le _) (fun j hj => absurd hj (Nat.not_lt_zero _))
      rw [← L] at v2
      -- the reference's
      obtain ⟨v', w1, w2⟩ := hm_58 (V := V) (si := si) (sj := sj) (sq := sq) (a0 := a0) (y1 := si 384 0) (N := N) (P := P) (r1 := va_up si 384 A) (I1 := va_up U 406 K) (o := o) (B := fun p => decide (A (740 + 12 * p) = A (740 + 12 * P) ∧ A (740 + 12 * p + 3) ≠ 300)) hP P40 hN N40 (fun p _ => by rw [va_up_self]; exact decide_eq_true_iff) (fun E hE x y p q hx hy hp hq => by
        rw [va_up_self]
        exact l4 E hE (va_up U 406 K) (va_up si 384 A) sj (si 384 0) x y p q (va_up_self _ _ _) (va_up_self _ _ _) hx hy hp hq) ((40 - (0 : Int32).toInt).toNat + 1) 0 0 (-1) k0 (by rw [k0]; omega) (Nat.zero_le _) (Or.inl ⟨rfl, rfl⟩)
      rw [va_up_self, srtF_v ltk_s] at w2
      have ev : v' = v := QF_u w2 v2
      rw [ev] at w1
      -- TITLES
      have hH1 : HLD I (va_up R 331 f) (va_up si 384 A 384) := fun c hc => by
        rw [va_up_ne _ _ (show (325 : Nat) ≠ 331 by decide), va_up_self, oR 325 (by decide), aA _ (fun p hp => by omega)]
        exact hH c hc
      obtain ⟨z, R', s', t1, t2, t3, t4, t5, t6⟩ := pt_sim (I := I) (J := J) (rj := rj) (rq := rq) (V := V) (si := si) (sj := sj) (sq := sq) (a0 := a0) (v := v) (N := C) (I1 := va_up U 406 K) (QF_b v2) hC (by rw [← e2]; exact hC) (by omega) ((40 - (0 : Int32).toInt).toNat + 1) 0 0 0 (va_up R 331 f) (va_up si 384 A) k0 (by rw [k0]; omega) (Nat.zero_le _) hH1
      have cc : g_X11_death tI tR a0 I J ri rj rq = (z, I, J, R', rj, rq) := by
        rw [g_X11_death_e, isPerson_c, bnI_mk, if_neg q1]
        simp only [↓ap1_n]
        rw [at_n hP, if_neg q2, eR, g_X10_heirOf_e]
        simp only [↓ap1_n]
        rw [e0, l1, bnV_mk, v1, bnI_mk, g_X10_passTitles_e, t1, bnI_mk]
      have cm : g_X12_death a0 U V si sj sq = (z, va_up U 406 K, V, s', sj, sq) := by
        rw [e3] at q2
        rw [g_X12_death_e, isPerson_m, bnI_mk, if_neg q3, bn_n (pa3 hP P40), if_neg q2]
        simp only [↓ap1_n]
        rw [ixp (c := a0) (k := 3) 3 (by decide) (by decide) b.1 a39, at_n hP, eA, l3, bnI_mk, w1, t2]
      unfold FH
      rw [cc, cm]
      refine ⟨rfl, FLK_cg hK1 rfl (fun t ht p _ => ?_) ?_ (fun p k hp hk => ?_), t3⟩
      · show R' t p = R t p
        rw [t4 t (fun q : t = 325 => by rw [q] at ht; exact absurd ht (by decide)), va_up_ne _ _ (fun q : t = 331 => by rw [q] at ht; exact absurd ht (by decide))]
      · show s' 384 5 = A 5
        rw [t6 5 (fun c hc => by omega), va_up_self]
      · show s' 384 (740 + 12 * p + k) = A (740 + 12 * p + k)
        rw [t6 _ (fun c hc => by omega), va_up_self]
end PK5
/-! ===== pure: calls on PERSONS, LOTS and TITLES, both sides (behind pk5) ===== -/
section PK6
variable {I : Nat → Int32} {J : Nat → Int64} {ri : Nat → Nat → Int32} {rj : Nat → Nat → Int64} {rq : Nat → Nat → Option Nat}
variable {U : Nat → Int32} {V : Nat → Int64} {si : Nat → Nat → Int32} {sj : Nat → Nat → Int64} {sq : Nat → Nat → Option Nat}
variable {tI : Nat → Nat → Int32} {tR : Nat → Nat → Nat → Int32}
theorem lcx {β : Type} (I : Nat → Int32) (J : Nat → Int64) (rj : Nat → Nat → Int64) (rq : Nat → Nat → Option Nat) {r : Int32} {R : Nat → Nat → Int32} {k : Int32 → (Nat → Int32) → (Nat → Int64) → (Nat → Nat → Int32) → (Nat → Nat → Int64) → (Nat → Nat → Option Nat) → β} : bnI (r, I, J, R, rj, rq) k = k r I J R rj rq := of_eq_true (eq_self _)
/-- how many are at a PLACE -/
theorem ca_sim {a0 : Int32} {N : Nat} (hI : (I 0).toInt = (N : Int)) (hS : (si 384 5).toInt = (N : Int)) (hN : N ≤ 40) (hp : ∀ p, p < 40 → ri 5 p = si 384 (740 + 12 * p + 3)) : ∀ (n k : Nat) (x cnt : Int32), x.toInt = (k : Int) → 40 - k < n → ∃ z : Int32, g_X0_countAt_L4 a0 I J ri rj rq n cnt x = (z, I, J, ri, rj, rq) ∧ g_X12_manyAt_L4 a0 U V si sj sq n cnt x = (z, U, V, si, sj, sq) := by
  intro n
  induction n with
  | zero => intro k _ _ _ h; exact absurd h (Nat.not_lt_zero _)
  | succ n ih =>
    intro k x cnt hx hn
    rw [g_X0_countAt_L4_e, g_X12_manyAt_L4_e]
    simp only [↓ap1_n, g_X0_countAt_K25, g_X12_manyAt_K30, g_X12_manyAt_K30_2]
    by_cases c : I 0 ≤ x
    · have c1 := (le_n hI hx).mp c
      rw [if_pos c, if_pos ((le_n hS hx).mpr c1)]
      exact ⟨cnt, rfl, rfl⟩
    · have c1 : ¬ N ≤ k := fun y => c ((le_n hI hx).mpr y)
      have nx := up_i hx (by omega)
      rw [if_neg c, if_neg (fun y => c1 ((le_n hS hx).mp y)), bn_n (pa3 hx (by omega)), at_n hx, hp k (by omega)]
      by_cases d : si 384 (740 + 12 * k + 3) = a0
      · rw [if_pos d, if_pos d, show Int32.ofInt 1 = 1 by decide]
        rw [show Int32.ofInt 1 = 1 by decide] at nx
        have := ih (k + 1) (x + 1) (cnt + 1) nx (by omega)
        exact this
      · rw [if_neg d, if_neg d, Int32.add_zero]
        exact ih (k + 1) _ cnt nx (by omega)
theorem cat_v2 {a0 : Int32} (hK : FLK I ri (si 384)) : ∃ z : Int32, g_X0_countAt a0 I J ri rj rq = (z, I, J, ri, rj, rq) ∧ g_X12_manyAt a0 U V si sj sq = (z, U, V, si, sj, sq) := by
  have k0 : (0 : Int32).toInt = 0 := by decide
  obtain ⟨i0, ⟨n0, n40⟩, kp⟩ := hK
  obtain ⟨N, hN⟩ : ∃ N : Nat, (si 384 5).toInt = (N : Int) := ⟨(si 384 5).toInt.toNat, by omega⟩
  rw [g_X0_countAt_e, g_X12_manyAt_e]
  exact ca_sim (N := N) (by rw [i0]; exact hN) hN (by omega) (fun p hp => (kp p hp).1.2.2.2.1) _ 0 0 0 k0 (by rw [k0]; omega)
theorem free_v {a0 : Int32} {l : Nat} (hK : FLK I ri (si 384)) (hL : LTS I ri (si 384)) (h : a0.toInt = (l : Int)) (hl : l < 5) : ∃ z : Int32, g_X0_freeBeds a0 I J ri rj rq = (z, I, J, ri, rj, rq) ∧ g_X12_freeIn a0 U V si sj sq = (z, U, V, si, sj, sq) := by
  obtain ⟨z, e1, e2⟩ := cat_v2 (I := I) (J := J) (ri := ri) (rj := rj) (rq := rq) (U := U) (V := V) (si := si) (sj := sj) (sq := sq) (a0 := 100 + a0) hK
  have i80 : ((80 : Int32) + a0).toNatClampNeg = 80 + l := at_n ((i_add (show (80 : Int32).toInt = 80 by decide) h (by omega) (by omega)).trans (by omega))
  rw [g_X0_freeBeds_e, g_X12_freeIn_e]
  simp only [↓ap1_n]
  rw [bn_n e1, bn_n e2, at_n h, i80, (hL.2.2 l hl).1]
  exact ⟨_, rfl, rfl⟩
theorem lot_ix {a n : Int32} (h : 0 ≤ n.toInt ∧ n.toInt ≤ 5) (q : bt a 100 (100 + n - 1) ≠ 0) : ∃ l : Nat, l < 5 ∧ (l : Int) < n.toInt ∧ (a - 100).toInt = (l : Int) ∧ a.toInt = 100 + (l : Int) := by
  have b := bt_n q
  have k : (100 : Int32).toInt = 100 := by decide
  have m1 := i_add k (show n.toInt = n.toInt from rfl) (by omega) (by omega)
  have m2 := i_sub m1 (show (1 : Int32).toInt = 1 by decide) (by omega) (by omega)
  rw [k, m2] at b
  have m3 := i_sub (show a.toInt = a.toInt from rfl) k (by omega) (by omega)
  exact ⟨(a.toInt - 100).toNat, by omega, by omega, by omega, by omega⟩
/-- answer and PERSONS -/
def FK1 (b c : Int32 × vM) : Prop := b.1 = c.1 ∧ FLK b.2.1 b.2.2.2.1 (c.2.2.2.1 384)
/-- go -/
theorem go_F {a0 a1 : Int32} (h : RSL I ri (si 384)) (hK : FLK I ri (si 384)) (hL : LTS I ri (si 384)) : FK1 (g_X11_go a0 a1 I J ri rj rq) (g_X12_go a0 a1 U V si sj sq) := by
  have k0 : (0 : Int32).toInt = 0 := by decide
  have hK' := hK
  obtain ⟨i0, ⟨n0, n40⟩, kp⟩ := hK'
  obtain ⟨_, ⟨⟨r0, r5⟩, _, _⟩, ⟨_, e1, _, _⟩, _⟩ := h
  rw [← e1] at r0 r5
  have e4 := hL.1
  have l45 := hL.2.1
  have nope : FK1 ((0 : Int32), I, J, ri, rj, rq) ((0 : Int32), U, V, si, sj, sq) := ⟨rfl, hK⟩
  rw [g_X11_go_e, g_X12_go_e, bn_n isPerson_c, bn_n isPerson_m, ← i0]
  by_cases q1 : bt a0 0 (I 0 - 1) = 0
  · rw [if_pos q1, if_pos q1]; exact nope
  rw [if_neg q1, if_neg q1]
  have b1 := bt_cell (n := I 0) (by rw [i0]; exact n0) (by rw [i0]; exact n40) q1
  have i0n : (I 0).toInt = (si 384 5).toInt := congrArg Int32.toInt i0
  obtain ⟨P, hP⟩ : ∃ P : Nat, a0.toInt = (P : Int) := ⟨a0.toInt.toNat, by omega⟩
  have P40 : P < 40 := by omega
  have e3 : ri 5 P = si 384 (740 + 12 * P + 3) := (kp P P40).1.2.2.2.1
  have i3 : ((740 : Int32) + (12 : Int32) * a0 + 3).toNatClampNeg = 740 + 12 * P + 3 := by rw [ixp (c := a0) (k := 3) 3 (by decide) (by decide) (by omega) (by omega), at_n hP]
  -- the PERSON goes
  have yes : ((0 ≤ a1.toInt ∧ a1.toInt ≤ 300) ∧ (a1.toInt < 5 ∨ 100 ≤ a1.toInt)) → FK1 (g_X11_go_K76 a0 a1 I J ri rj rq) (g_X12_go_K61 a0 a1 U V si sj sq) := fun hv => by
    rw [g_X11_go_K76_e, g_X11_go_K81_2_e, g_X12_go_K61_e]
    simp only [↓ap1_n]
    rw [g_X11_go_K95_2_e, at_n hP, i3]
    refine ⟨rfl, ?_⟩
    show FLK I (va_up ri 5 (upd (ri 5) P a1)) (va_up si 384 (upd (si 384) (740 + 12 * P + 3) a1) 384)
    rw [va_up_self]
    exact FLK_3 hK P40 hv
  simp only [↓ap1_n]
  rw [bn_n (pa3 hP P40), bn_n (pa3 hP P40), at_n hP, e3]
  -- whether the PLACE is one
  have place : ∀ x : Int32, g_X12_isPlace a1 U V si sj sq = (x, U, V, si, sj, sq) → True := fun _ _ => trivial
  by_cases d : si 384 (740 + 12 * P + 3) = 300
  · -- DEAD: nobody goes
    rw [if_pos d]
    have : FK1 ((0 : Int32), I, J, ri, rj, rq) (bnI (g_X12_isPlace a1 U V si sj sq) fun (x : Int32) (_ : Nat → Int32) (_ : Nat → Int64) (_ : Nat → Nat → Int32) (_ : Nat → Nat → Int64) (_ : Nat → Nat → Option Nat) => if x = 0 then g_X12_go_K38 U V si sj sq else if si 384 (740 + 12 * P + 3) = a1 then g_X12_go_K38 U V si sj sq else g_X12_go_K38 U V si sj sq) := by
      rw [bn_p g_X12_isPlace_f]
      split
      · exact nope
      · split
        · exact nope
        · exact nope
    rw [if_pos d]
    exact this
  rw [if_neg d, if_neg d]
  rw [g_X12_isPlace_e, bn_n isRing_c, bn_n isRing_m, ← e1]
  by_cases s : si 384 (740 + 12 * P + 3) = a1
  · rw [if_pos s, if_pos s]
    have : ∀ y : Int32, FK1 (g_X11_go_K40 I J ri rj rq) (if y = 0 then g_X12_go_K38 U V si sj sq else g_X12_go_K38 U V si sj sq) := fun y => by
      split
      · exact nope
      · exact nope
    by_cases q2 : bt a1 0 (I 64 - 1) = 0
    · rw [if_pos q2, bn_n isLot_m]
      by_cases q3 : bt a1 100 (100 + si 384 4 - 1) = 0
      · rw [if_pos q3]
        by_cases q4 : a1 = 200
        · rw [if_pos q4, bnI_mk]; exact this 1
        · rw [if_neg q4, bnI_mk]; exact this 0
      · rw [if_neg q3, bnI_mk]; exact this 1
    · rw [if_neg q2, bnI_mk]; exact this 1
  rw [if_neg s, if_neg s]
  have lz : bt a1 0 (I 64 - 1) ≠ 0 → bt a1 100 (100 + si 384 4 - 1) = 0 := fun y => by
    have b := bt_cell (n := I 64) r0 (by omega) y
    refine bt_lo (Int32.lt_iff_toInt_lt.mpr ?_)
    have k : (100 : Int32).toInt = 100 := by decide
    omega
  by_cases q2 : bt a1 0 (I 64 - 1) = 0
  · rw [if_pos q2, if_pos q2, bn_n isLot_c, bn_n isLot_m, bn_n isLot_m, ← e4]
    by_cases q4 : a1 = 200
    · have z : bt a1 100 (100 + I 10 - 1) = 0 := by
        by_cases y : bt a1 100 (100 + I 10 - 1) = 0
        · exact y
        · obtain ⟨l, l1, _, _, l4⟩ := lot_ix (by rw [e4]; exact l45) y
          have k : (200 : Int32).toInt = 200 := by decide
          rw [q4, k] at l4
          omega
      rw [if_pos q4, if_pos z, if_pos q4, bnI_mk, if_neg (show ¬ (1 : Int32) = 0 by decide), if_pos z]
      exact yes (by rw [q4]; decide)
    · rw [if_neg q4, if_neg q4]
      by_cases q3 : bt a1 100 (100 + I 10 - 1) = 0
      · rw [if_pos q3, if_pos q3, bnI_mk, if_pos (show (0 : Int32) = 0 from rfl)]
        exact nope
      · obtain ⟨l, l1, _, l3, l4⟩ := lot_ix (by rw [e4]; exact l45) q3
        obtain ⟨z, z1, z2⟩ := free_v (I := I) (J := J) (ri := ri) (rj := rj) (rq := rq) (U := U) (V := V) (si := si) (sj := sj) (sq := sq) (a0 := a1 - 100) hK hL l3 l1
        rw [if_neg q3, if_neg q3, lcx U V sj sq, if_neg (show ¬ (1 : Int32) = 0 by decide), if_neg q3, bn_n z1, bn_n z2]
        by_cases f : z ≤ 0
        · have f1 := Int32.le_iff_toInt_le.mp f
          rw [if_pos f, if_neg (show ¬ 0 < z from fun y => by have := Int32.lt_iff_toInt_lt.mp y; omega)]
          exact nope
        · rw [if_neg f, if_pos (show 0 < z from Int32.not_le.mp f)]
          exact yes (by omega)
  · have b := bt_cell (n := I 64) r0 (by omega) q2
    rw [if_neg q2, if_neg q2, bn_n (show ((1 : Int32), U, V, si, sj, sq) = ((1 : Int32), U, V, si, sj, sq) from rfl), if_neg (show ¬ (1 : Int32) = 0 by decide), bn_n isLot_m, if_pos (lz q2)]
    exact yes (by omega)
end PK6
/-! ===== pure: BOATS, what both sides count (behind pk6) ===== -/
section PK7
variable {I : Nat → Int32} {J : Nat → Int64} {ri : Nat → Nat → Int32} {rj : Nat → Nat → Int64} {rq : Nat → Nat → Option Nat}
variable {U : Nat → Int32} {V : Nat → Int64} {si : Nat → Nat → Int32} {sj : Nat → Nat → Int64} {sq : Nat → Nat → Option Nat}
/-- how many below N -/
def cbN (f : Nat → Bool) : Nat → Nat
  | 0 => 0
  | k + 1 => cbN f k + (if f k = true then 1 else 0)
theorem cbN_le {f : Nat → Bool} : ∀ N, cbN f N ≤ N
  | 0 => Nat.le_refl _
  | k + 1 => by
    have := cbN_le (f := f) k
    show cbN f k + (if f k = true then 1 else 0) ≤ k + 1
    split <;> omega
theorem cbN_cg {f g : Nat → Bool} : ∀ N, (∀ r, r < N → f r = g r) → cbN f N = cbN g N
  | 0, _ => rfl
  | k + 1, h => by
    show cbN f k + (if f k = true then 1 else 0) = cbN g k + (if g k = true then 1 else 0)
    rw [cbN_cg k (fun r hr => h r (by omega)), h k (Nat.lt_succ_self _)]
theorem cbN_2 {f g h : Nat → Bool} : ∀ N, (∀ r, r < N → (h r = (f r || g r)) ∧ (f r && g r) = false) → cbN h N = cbN f N + cbN g N
  | 0, _ => rfl
  | k + 1, e => by
    show cbN h k + (if h k = true then 1 else 0) = cbN f k + (if f k = true then 1 else 0) + (cbN g k + (if g k = true then 1 else 0))
    rw [cbN_2 k (fun r hr => e r (by omega))]
    obtain ⟨e1, e2⟩ := e k (Nat.lt_succ_self _)
    rw [e1]
    cases hf : f k <;> cases hg : g k
    · simp
    · simp
      omega
    · simp
      omega
    · rw [hf, hg] at e2
      cases e2
theorem cbN_1 {f : Nat → Bool} {k : Nat} : ∀ {N : Nat}, k < N → f k = true → 1 ≤ cbN f N
  | 0, h, _ => absurd h (Nat.not_lt_zero _)
  | N + 1, h, hf => by
    show 1 ≤ cbN f N + (if f N = true then 1 else 0)
    by_cases e : k = N
    · rw [← e, if_pos hf]; omega
    · have := cbN_1 (N := N) (show k < N by omega) hf
      omega
theorem ofN_t {n : Nat} (h : n ≤ 100000) : (Int32.ofNat n).toInt = (n : Int) := Int32.toInt_ofNat_of_lt (by omega)
theorem ofN_u {x : Int32} {n : Nat} (h : x.toInt = (n : Int)) (hn : n ≤ 100000) : x = Int32.ofNat n := Int32.toInt_inj.mp (h.trans (ofN_t hn).symm)
/-- how many are at a PLACE, by the reference's row -/
def mny (A : Nat → Int32) (N : Nat) (v : Int32) : Nat := cbN (fun r => decide (A (740 + 12 * r + 3) = v)) N
/-- a LOT's number as a PLACE -/
def lotP (l : Nat) : Int32 := 100 + Int32.ofNat l
theorem lotP_t {l : Nat} (h : l ≤ 1000) : (lotP l).toInt = 100 + (l : Int) := i_add (show (100 : Int32).toInt = 100 by decide) (ofN_t (by omega)) (by omega) (by omega)
/-- a LOT's free BEDS -/
def frE (A : Nat → Int32) (N l : Nat) : Int32 := A (80 + l) - Int32.ofNat (mny A N (lotP l))
theorem ma_4 {a0 : Int32} {N : Nat} (hS : (si 384 5).toInt = (N : Int)) (hN : N ≤ 40) : ∀ (n k : Nat) (x cnt : Int32), x.toInt = (k : Int) → 40 - k < n → k ≤ N → cnt.toInt = (cbN (fun r => decide (si 384 (740 + 12 * r + 3) = a0)) k : Int) → g_X12_manyAt_L4 a0 U V si sj sq n cnt x = (Int32.ofNat (mny (si 384) N a0), U, V, si, sj, sq) := by
  intro n
  induction n with
  | zero => intro k _ _ _ h; exact absurd h (Nat.not_lt_zero _)
  | succ n ih =>
    intro k x cnt hx hn hk hc
    have le := cbN_le (f := fun r => decide (si 384 (740 + 12 * r + 3) = a0)) k
    rw [g_X12_manyAt_L4_e]
    simp only [↓ap1_n, g_X12_manyAt_K30, g_X12_manyAt_K30_2]
    by_cases c : si 384 5 ≤ x
    · have c1 := (le_n hS hx).mp c
      rw [if_pos c, ofN_u hc (by omega), show k = N by omega]
      rfl
    · have c1 : ¬ N ≤ k := fun y => c ((le_n hS hx).mpr y)
      have nx := up_i hx (by omega)
      have es : cbN (fun r => decide (si 384 (740 + 12 * r + 3) = a0)) (k + 1) = cbN (fun r => decide (si 384 (740 + 12 * r + 3) = a0)) k + (if decide (si 384 (740 + 12 * k + 3) = a0) = true then 1 else 0) := rfl
      rw [if_neg c, bn_n (pa3 hx (by omega))]
      by_cases d : si 384 (740 + 12 * k + 3) = a0
      · rw [if_pos d]
        rw [if_pos (decide_eq_true d)] at es
        exact ih (k + 1) _ _ nx (by omega) (by omega) (by rw [es]; exact upN hc (by omega))
      · rw [if_neg d, Int32.add_zero]
        rw [if_neg (by rw [decide_eq_false d]; exact Bool.false_ne_true), Nat.add_zero] at es
        exact ih (k + 1) _ _ nx (by omega) (by omega) (by rw [es]; exact hc)
theorem many_v {a0 : Int32} {N : Nat} (hS : (si 384 5).toInt = (N : Int)) (hN : N ≤ 40) : g_X12_manyAt a0 U V si sj sq = (Int32.ofNat (mny (si 384) N a0), U, V, si, sj, sq) := by
  have k0 : (0 : Int32).toInt = 0 := by decide
  rw [g_X12_manyAt_e]
  exact ma_4 hS hN _ 0 0 0 k0 (by rw [k0]; omega) (Nat.zero_le _) k0
theorem freeIn_v {a0 : Int32} {N l : Nat} (hS : (si 384 5).toInt = (N : Int)) (hN : N ≤ 40) (h : a0.toInt = (l : Int)) (hl : l < 5) : g_X12_freeIn a0 U V si sj sq = (frE (si 384) N l, U, V, si, sj, sq) := by
  have i80 : ((80 : Int32) + a0).toNatClampNeg = 80 + l := at_n ((i_add (show (80 : Int32).toInt = 80 by decide) h (by omega) (by omega)).trans (by omega))
  rw [g_X12_freeIn_e]
  simp only [↓ap1_n]
  rw [bn_n (many_v hS hN), i80, ofN_u h (by omega)]
  rfl
/-- the first LOT with so many free BEDS, of k from i on; i + k without -/
def fLot (F : Nat → Int32) (c : Int32) : Nat → Nat → Nat
  | i, 0 => i
  | i, k + 1 => if c ≤ F i then i else fLot F c (i + 1) k
theorem fLot_cg {F G : Nat → Int32} {c : Int32} : ∀ k i : Nat, (∀ l, i ≤ l → l < i + k → F l = G l) → fLot F c i k = fLot G c i k
  | 0, i, _ => rfl
  | k + 1, i, h => by
    show (if c ≤ F i then i else fLot F c (i + 1) k) = (if c ≤ G i then i else fLot G c (i + 1) k)
    rw [h i (Nat.le_refl _) (by omega), fLot_cg k (i + 1) (fun l h1 h2 => h l (by omega) (by omega))]
/-- the class takes a LOT -/
theorem tl_2 {a0 : Int32} {L : Nat} (hL : (I 10).toInt = (L : Int)) (hL5 : L ≤ 5) : ∀ (n i : Nat) (x : Int32), x.toInt = (i : Int) → 5 - i < n → i ≤ L → ∃ R : Nat → Nat → Int32, g_X0_takeLot_L2 a0 I J ri rj rq n x = ((if fLot (ri 13) a0 i (L - i) < L then Int32.ofNat (fLot (ri 13) a0 i (L - i)) else -1), I, J, R, rj, rq) ∧ (∀ t, t ≠ 13 → R t = ri t) ∧ (L ≤ fLot (ri 13) a0 i (L - i) → R = ri) ∧ (fLot (ri 13) a0 i (L - i) < L → R 13 = upd (ri 13) (fLot (ri 13) a0 i (L - i)) (ri 13 (fLot (ri 13) a0 i (L - i)) - a0)) := by
  intro n
  induction n with
  | zero => intro i _ _ h; exact absurd h (Nat.not_lt_zero _)
  | succ n ih =>
    intro i x hx hn hi
    rw [g_X0_takeLot_L2_e]
    simp only [↓ap1_n]
    by_cases c : I 10 ≤ x
    · have c1 := (le_n hL hx).mp c
      have e : L - i = 0 := by omega
      have e2 : fLot (ri 13) a0 i (L - i) = i := by rw [e]; rfl
      rw [if_pos c, e2, if_neg (show ¬ i < L by omega)]
      exact ⟨ri, rfl, fun _ _ => rfl, fun _ => rfl, fun h => absurd h (by omega)⟩
    · have c1 : ¬ L ≤ i := fun y => c ((le_n hL hx).mpr y)
      obtain ⟨k, hk⟩ : ∃ k, L - i = k + 1 := ⟨L - i - 1, by omega⟩
      have es : fLot (ri 13) a0 i (L - i) = (if a0 ≤ ri 13 i then i else fLot (ri 13) a0 (i + 1) k) := by rw [hk]; rfl
      rw [if_neg c, at_n hx, es]
      by_cases d : ri 13 i < a0
      · have nd : ¬ a0 ≤ ri 13 i := fun y => by
          have y1 := Int32.le_iff_toInt_le.mp y
          have y2 := Int32.lt_iff_toInt_lt.mp d
          omega
        rw [if_pos d, if_neg nd, show k = L - (i + 1) by omega]
        exact ih (i + 1) _ (up_i hx (by omega)) (by omega) (by omega)
      · have nd : a0 ≤ ri 13 i := Int32.not_lt.mp d
        rw [if_neg d, if_pos nd, if_pos (show i < L by omega)]
        refine ⟨_, by rw [ofN_u hx (by omega)], fun t ht => va_up_ne _ _ ht, fun h => absurd h (by omega), fun _ => va_up_self _ _ _⟩
theorem takeLot_v {a0 : Int32} {L : Nat} (hL : (I 10).toInt = (L : Int)) (hL5 : L ≤ 5) : ∃ R : Nat → Nat → Int32, g_X0_takeLot a0 I J ri rj rq = ((if fLot (ri 13) a0 0 L < L then Int32.ofNat (fLot (ri 13) a0 0 L) else -1), I, J, R, rj, rq) ∧ (∀ t, t ≠ 13 → R t = ri t) ∧ (L ≤ fLot (ri 13) a0 0 L → R = ri) ∧ (fLot (ri 13) a0 0 L < L → R 13 = upd (ri 13) (fLot (ri 13) a0 0 L) (ri 13 (fLot (ri 13) a0 0 L) - a0)) := by
  have k0 : (0 : Int32).toInt = 0 := by decide
  rw [g_X0_takeLot_e]
  exact tl_2 (ri := ri) hL hL5 ((5 - (0 : Int32).toInt).toNat + 1) 0 0 k0 (by rw [k0]; omega) (Nat.zero_le _)
/-! the reference's families -/
/-- who goes with P -/
def fmM (s : Nat → Nat → Int32) (P q : Nat) : Bool := decide (s 412 q = 0 ∧ s 384 (740 + 12 * q) = s 384 (740 + 12 * P) ∧ s 384 (740 + 12 * q + 3) = s 384 (740 + 12 * P + 3))
theorem isOfKin_v {x a0 a2 : Int32} {q P : Nat} (hx : x.toInt = (q : Int)) (hq : q < 40) (ha : a0.toInt = (P : Int)) (hP : P < 40) : g_X12_isOfKin x a0 a2 U V si sj sq = ((if q = P ∨ (si 412 q = 0 ∧ si 384 (740 + 12 * q) = si 384 (740 + 12 * P) ∧ si 384 (740 + 12 * q + 3) = a2) then 1 else 0), U, V, si, sj, sq) := by
  rw [g_X12_isOfKin_e]
  by_cases e : x = a0
  · have e2 : q = P := by
      rw [e, ha] at hx
      omega
    rw [if_pos e, if_pos (Or.inl e2), g_X12_isOfKin_K39_e]
  · have e2 : ¬ q = P := fun y => e (Int32.toInt_inj.mp (by rw [hx, ha, y]))
    rw [if_neg e]
    simp only [↓ap1_n]
    rw [at_n hx]
    by_cases z : si 412 q = 0
    · rw [if_pos z, bn_n (pa0 hx hq), bn_n (pa0 ha hP)]
      by_cases k : si 384 (740 + 12 * q) = si 384 (740 + 12 * P)
      · rw [if_pos k, bn_n (pa3 hx hq)]
        by_cases p : si 384 (740 + 12 * q + 3) = a2
        · rw [if_pos p, if_pos (Or.inr ⟨z, k, p⟩), g_X12_isOfKin_K39_e]
        · rw [if_neg p, if_neg (fun y => by
            rcases y with y | y
            · exact e2 y
            · exact p y.2.2), g_X12_isOfKin_K43_e]
      · rw [if_neg k, if_neg (fun y => by
          rcases y with y | y
          · exact e2 y
          · exact k y.2.1), g_X12_isOfKin_K43_e]
    · rw [if_neg z, if_neg (fun y => by
        rcases y with y | y
        · exact e2 y
        · exact z y.1), g_X12_isOfKin_K43_e]
theorem sails_v {x a1 a2 : Int32} {q : Nat} (hx : x.toInt = (q : Int)) (hq : q < 40) : g_X12_sails x a1 a2 U V si sj sq = (U, V, va_up si 384 (upd (upd (si 384) (740 + 12 * q + 3) (100 + a1)) (740 + 12 * q + 7) a2), sj, sq) := by
  rw [g_X12_sails_e]
  simp only [↓ap1_n, va_up_self, up_up]
  rw [ixp (c := x) (k := 3) 3 (by decide) (by decide) (by omega) (by omega), ixp (c := x) (k := 7) 7 (by decide) (by decide) (by omega) (by omega), at_n hx]
/-- what is left of a state when P's family has gone (v: to which PLACE, or nowhere) -/
def FMW (s s' : Nat → Nat → Int32) (N P : Nat) (v : Option Int32) : Prop := (∀ t, t ≠ 384 → t ≠ 412 → s' t = s t) ∧ (∀ q, q < N → s' 412 q = (if fmM s P q = true then 1 else s 412 q)) ∧ (∀ q, q < 40 → s' 384 (740 + 12 * q + 3) = (match v with | none => s 384 (740 + 12 * q + 3) | some z => if q < N ∧ fmM s P q = true then z else s 384 (740 + 12 * q + 3))) ∧ ∀ i, (∀ q k, q < 40 → k ∈ [3, 7] → i ≠ 740 + 12 * q + k) → s' 384 i = s 384 i
theorem fm_14 {a0 a1 a2 x2 : Int32} {N P : Nat} (hS : (si 384 5).toInt = (N : Int)) (hN : N ≤ 40) (ha : a0.toInt = (P : Int)) (hP : P < N) (h2 : x2 = si 384 (740 + 12 * P + 3)) (hM : fmM si P P = true) : ∀ (n k : Nat) (x cnt : Int32), x.toInt = (k : Int) → 40 - k < n → k ≤ N → cnt.toInt = (cbN (fmM si P) k : Int) → g_X12_family_L14 a0 a1 a2 U V si sj sq x2 n cnt x = g_X12_family_L56 a0 a1 a2 U V si sj sq x2 (Int32.ofNat (cbN (fmM si P) N)) (si 384 5) ((5 - ((0 : Int32)).toInt).toNat + 1) (0 : Int32) := by
  intro n
  induction n with
  | zero => intro k _ _ _ h; exact absurd h (Nat.not_lt_zero _)
  | succ n ih =>
    intro k x cnt hx hn hk hc
    have le := cbN_le (f := fmM si P) k
    rw [g_X12_family_L14_e]
    simp only [↓ap1_n, g_X12_family_K44, g_X12_family_K44_2]
    by_cases c : si 384 5 ≤ x
    · have c1 := (le_n hS hx).mp c
      rw [if_pos c, ofN_u hc (by omega), show k = N by omega]
    · have c1 : ¬ N ≤ k := fun y => c ((le_n hS hx).mpr y)
      have nx := up_i hx (by omega)
      have es : cbN (fmM si P) (k + 1) = cbN (fmM si P) k + (if fmM si P k = true then 1 else 0) := rfl
      have eq1 : (k = P ∨ (si 412 k = 0 ∧ si 384 (740 + 12 * k) = si 384 (740 + 12 * P) ∧ si 384 (740 + 12 * k + 3) = x2)) ↔ fmM si P k = true := by
        rw [h2]
        constructor
        · intro y
          rcases y with y | y
          · rw [y]; exact hM
          · exact decide_eq_true y
        · intro y
          exact Or.inr (of_decide_eq_true y)
      rw [if_neg c, bn_n (isOfKin_v hx (by omega) ha (by omega))]
      by_cases m : fmM si P k = true
      · rw [if_pos (eq1.mpr m), if_neg (show ¬ (1 : Int32) = 0 by decide)]
        rw [if_pos m] at es
        exact ih (k + 1) _ _ nx (by omega) (by omega) (by rw [es]; exact upN hc (by omega))
      · rw [if_neg (fun y => m (eq1.mp y)), if_pos (show (0 : Int32) = 0 from rfl), Int32.add_zero]
        rw [if_neg m, Nat.add_zero] at es
        exact ih (k + 1) _ _ nx (by omega) (by omega) (by rw [es]; exact hc)
theorem fm_56 {a0 a1 a2 x2 c y1 : Int32} {N L : Nat} (hS : (si 384 5).toInt = (N : Int)) (hN : N ≤ 40) (hL : (si 384 4).toInt = (L : Int)) (hL5 : L ≤ 5) : ∀ (n i : Nat) (x : Int32), x.toInt = (i : Int) → 5 - i < n → i ≤ L → g_X12_family_L56 a0 a1 a2 U V si sj sq x2 c y1 n x = (if a2 < c ∨ L ≤ fLot (frE (si 384) N) c i (L - i) then g_X12_family_K105 a0 U V si sj sq x2 y1 else g_X12_family_K106 a0 a1 U V si sj sq x2 c y1 (Int32.ofNat (fLot (frE (si 384) N) c i (L - i)))) := by
  intro n
  induction n with
  | zero => intro i _ _ h; exact absurd h (Nat.not_lt_zero _)
  | succ n ih =>
    intro i x hx hn hi
    -- behind the search
    have fin : ∀ j : Nat, x.toInt = (j : Int) → j ≤ L → g_X12_family_K84 a0 a1 a2 U V si sj sq x2 c y1 x (si 384 4) = (if a2 < c ∨ L ≤ j then g_X12_family_K105 a0 U V si sj sq x2 y1 else g_X12_family_K106 a0 a1 U V si sj sq x2 c y1 (Int32.ofNat j)) := fun j hj hjL => by
      rw [g_X12_family_K84_e]
      by_cases q : a2 < c
      · rw [if_pos q, if_pos (Or.inl q)]
      · rw [if_neg q]
        by_cases w : si 384 4 ≤ x
        · rw [if_pos w, if_pos (Or.inr ((le_n hL hj).mp w))]
        · rw [if_neg w, if_neg (fun y => by
            rcases y with y | y
            · exact q y
            · exact w ((le_n hL hj).mpr y)), ofN_u hj (by omega)]
    rw [g_X12_family_L56_e]
    simp only [↓ap1_n]
    by_cases w : si 384 4 ≤ x
    · have w1 := (le_n hL hx).mp w
      have e : L - i = 0 := by omega
      have e2 : fLot (frE (si 384) N) c i (L - i) = i := by rw [e]; rfl
      rw [if_pos w, fin i hx hi, e2]
    · have w1 : ¬ L ≤ i := fun y => w ((le_n hL hx).mpr y)
      obtain ⟨k, hk⟩ : ∃ k, L - i = k + 1 := ⟨L - i - 1, by omega⟩
      have es : fLot (frE (si 384) N) c i (L - i) = (if c ≤ frE (si 384) N i then i else fLot (frE (si 384) N) c (i + 1) k) := by rw [hk]; rfl
      rw [if_neg w, bn_n (freeIn_v hS hN hx (by omega)), es]
      by_cases d : c ≤ frE (si 384) N i
      · rw [if_pos d, if_pos d]
        exact fin i hx hi
      · rw [if_neg d, if_neg d, show k = L - (i + 1) by omega]
        exact ih (i + 1) _ (up_i hx (by omega)) (by omega) (by omega)
/-- who doesn't go is marked -/
theorem fm_112 {a0 x2 : Int32} {N P : Nat} {s0 : Nat → Nat → Int32} (hS : (s0 384 5).toInt = (N : Int)) (hN : N ≤ 40) (ha : a0.toInt = (P : Int)) (hP : P < N) (h2 : x2 = s0 384 (740 + 12 * P + 3)) (hM : fmM s0 P P = true) : ∀ (n k : Nat) (x : Int32) (f : Nat → Int32), x.toInt = (k : Int) → 40 - k < n → k ≤ N → (∀ q, f q = (if q < k ∧ fmM s0 P q = true then 1 else s0 412 q)) → ∃ f' : Nat → Int32, g_X12_family_L111_2 a0 U V sj sq x2 (s0 384 5) n x (va_up s0 412 f) = (0, U, V, va_up s0 412 f', sj, sq) ∧ ∀ q, f' q = (if q < N ∧ fmM s0 P q = true then 1 else s0 412 q) := by
  intro n
  induction n with
  | zero => intro k _ _ _ h; exact absurd h (Nat.not_lt_zero _)
  | succ n ih =>
    intro k x f hx hn hk hf
    rw [g_X12_family_L111_2_e]
    simp only [↓ap1_n, g_X12_family_K168_2, g_X12_family_K187_2]
    by_cases c : s0 384 5 ≤ x
    · have c1 := (le_n hS hx).mp c
      rw [if_pos c]
      exact ⟨f, rfl, by rw [show N = k by omega]; exact hf⟩
    · have c1 : ¬ N ≤ k := fun y => c ((le_n hS hx).mpr y)
      have nx := up_i hx (by omega)
      have r384 : va_up s0 412 f 384 = s0 384 := va_up_ne _ _ (by decide)
      have fk : f k = s0 412 k := by rw [hf k, if_neg (fun y => by omega)]
      have eq1 : (k = P ∨ (va_up s0 412 f 412 k = 0 ∧ va_up s0 412 f 384 (740 + 12 * k) = va_up s0 412 f 384 (740 + 12 * P) ∧ va_up s0 412 f 384 (740 + 12 * k + 3) = x2)) ↔ fmM s0 P k = true := by
        rw [r384, va_up_self, fk, h2]
        constructor
        · intro y
          rcases y with y | y
          · rw [y]; exact hM
          · exact decide_eq_true y
        · intro y
          exact Or.inr (of_decide_eq_true y)
      rw [if_neg c, bn_n (isOfKin_v (si := va_up s0 412 f) hx (by omega) ha (by omega))]
      by_cases m : fmM s0 P k = true
      · rw [if_pos (eq1.mpr m), if_neg (show ¬ (1 : Int32) = 0 by decide), va_up_self, up_up, at_n hx, ite_self]
        refine ih (k + 1) _ _ nx (by omega) (by omega) (fun q => ?_)
        by_cases e : q = k
        · rw [e, upd_s, if_pos ⟨Nat.lt_succ_self _, m⟩]
        · rw [upd_n _ _ e, hf q]
          by_cases l : q < k ∧ fmM s0 P q = true
          · rw [if_pos l, if_pos ⟨by omega, l.2⟩]
          · rw [if_neg l, if_neg (fun y => l ⟨by omega, y.2⟩)]
      · rw [if_neg (fun y => m (eq1.mp y)), if_pos (show (0 : Int32) = 0 from rfl)]
        refine ih (k + 1) _ f nx (by omega) (by omega) (fun q => ?_)
        rw [hf q]
        by_cases l : q < k ∧ fmM s0 P q = true
        · rw [if_pos l, if_pos ⟨by omega, l.2⟩]
        · rw [if_neg l, if_neg (fun y => by
            by_cases e : q = k
            · rw [e] at y; exact m y.2
            · exact l ⟨by omega, y.2⟩)]
/-- who goes -/
theorem fm_111 {a0 a1 x2 c z : Int32} {N P : Nat} {s0 : Nat → Nat → Int32} (hS : (s0 384 5).toInt = (N : Int)) (hN : N ≤ 40) (ha : a0.toInt = (P : Int)) (hP : P < N) (h2 : x2 = s0 384 (740 + 12 * P + 3)) (hM : fmM s0 P P = true) : ∀ (n k : Nat) (x : Int32) (f A : Nat → Int32), x.toInt = (k : Int) → 40 - k < n → k ≤ N → (∀ q, f q = (if q < k ∧ fmM s0 P q = true then 1 else s0 412 q)) → (∀ q, q < 40 → A (740 + 12 * q + 3) = (if q < k ∧ fmM s0 P q = true ∧ q ≠ P then 100 + z else s0 384 (740 + 12 * q + 3))) → (∀ i, (∀ q k, q < 40 → k ∈ [3, 7] → i ≠ 740 + 12 * q + k) → A i = s0 384 i) → ∃ f' A' : Nat → Int32, g_X12_family_L111 a0 a1 U V sj sq x2 c (s0 384 5) z n x (va_up (va_up s0 412 f) 384 A) = (c, U, V, va_up (va_up s0 412 f') 384 A', sj, sq) ∧ (∀ q, f' q = (if q < N ∧ fmM s0 P q = true then 1 else s0 412 q)) ∧ (∀ q, q < 40 → A' (740 + 12 * q + 3) = (if q < N ∧ fmM s0 P q = true then 100 + z else s0 384 (740 + 12 * q + 3))) ∧ ∀ i, (∀ q k, q < 40 → k ∈ [3, 7] → i ≠ 740 + 12 * q + k) → A' i = s0 384 i := by
  have n37 : ∀ q p k, p < 40 → k ∈ [3, 7] → 740 + 12 * q ≠ 740 + 12 * p + k := fun q p k hp hk => by
    simp only [List.mem_cons, List.not_mem_nil, or_false] at hk
    omega
  intro n
  induction n with
  | zero => intro k _ _ _ _ h; exact absurd h (Nat.not_lt_zero _)
  | succ n ih =>
    intro k x f A hx hn hk hf hA hO
    have x412 : ∀ (f A : Nat → Int32), va_up (va_up s0 412 f) 384 A 412 = f := fun f A => by rw [va_up_ne _ _ (show (412 : Nat) ≠ 384 by decide), va_up_self]
    have sw : ∀ (f A g : Nat → Int32), va_up (va_up (va_up s0 412 f) 384 A) 412 g = va_up (va_up s0 412 g) 384 A := fun f A g => by
      funext t
      by_cases h4 : t = 412
      · rw [h4, va_up_self, va_up_ne _ _ (show (412 : Nat) ≠ 384 by decide), va_up_self]
      · by_cases h3 : t = 384
        · rw [h3, va_up_ne _ _ (show (384 : Nat) ≠ 412 by decide), va_up_self, va_up_self]
        · rw [va_up_ne _ _ h4, va_up_ne _ _ h3, va_up_ne _ _ h4, va_up_ne _ _ h3, va_up_ne _ _ h4]
    rw [g_X12_family_L111_e]
    simp only [↓ap1_n, g_X12_family_K168, g_X12_family_K187]
    by_cases c0 : s0 384 5 ≤ x
    · have c1 := (le_n hS hx).mp c0
      have ek : N = k := by omega
      rw [if_pos c0, sails_v ha (by omega), bnV_mk, va_up_self, up_up]
      refine ⟨f, _, rfl, by rw [ek]; exact hf, fun q hq => ?_, fun i hi => ?_⟩
      · by_cases e : q = P
        · rw [e, upd_n _ _ (by omega), upd_s, if_pos ⟨hP, hM⟩]
        · rw [upd_n _ _ (by omega), upd_n _ _ (by omega), hA q hq]
          by_cases l : q < N ∧ fmM s0 P q = true
          · rw [if_pos l, if_pos ⟨by omega, l.2, e⟩]
          · rw [if_neg l, if_neg (fun y => l ⟨by omega, y.2.1⟩)]
      · rw [upd_n _ _ (hi P 7 (by omega) (by decide)), upd_n _ _ (hi P 3 (by omega) (by decide))]
        exact hO i hi
    · have c1 : ¬ N ≤ k := fun y => c0 ((le_n hS hx).mpr y)
      have nx := up_i hx (by omega)
      have fk : f k = s0 412 k := by rw [hf k, if_neg (fun y => by omega)]
      have Ak : A (740 + 12 * k + 3) = s0 384 (740 + 12 * k + 3) := by rw [hA k (by omega), if_neg (fun y => by omega)]
      have eq1 : (k = P ∨ (va_up (va_up s0 412 f) 384 A 412 k = 0 ∧ va_up (va_up s0 412 f) 384 A 384 (740 + 12 * k) = va_up (va_up s0 412 f) 384 A 384 (740 + 12 * P) ∧ va_up (va_up s0 412 f) 384 A 384 (740 + 12 * k + 3) = x2)) ↔ fmM s0 P k = true := by
        rw [x412, va_up_self, fk, Ak, hO _ (n37 k), hO _ (n37 P), h2]
        constructor
        · intro y
          rcases y with y | y
          · rw [y]; exact hM
          · exact decide_eq_true y
        · intro y
          exact Or.inr (of_decide_eq_true y)
      have hf1 : fmM s0 P k = true → ∀ q, upd f k 1 q = (if q < k + 1 ∧ fmM s0 P q = true then 1 else s0 412 q) := fun m q => by
        by_cases e : q = k
        · rw [e, upd_s, if_pos ⟨Nat.lt_succ_self _, m⟩]
        · rw [upd_n _ _ e, hf q]
          by_cases l : q < k ∧ fmM s0 P q = true
          · rw [if_pos l, if_pos ⟨by omega, l.2⟩]
          · rw [if_neg l, if_neg (fun y => l ⟨by omega, y.2⟩)]
      rw [if_neg c0, bn_n (isOfKin_v (si := va_up (va_up s0 412 f) 384 A) hx (by omega) ha (by omega))]
      by_cases m : fmM s0 P k = true
      · rw [if_pos (eq1.mpr m), if_neg (show ¬ (1 : Int32) = 0 by decide), x412, sw, at_n hx]
        by_cases e : x = a0
        · have ek : k = P := by
            rw [e, ha] at hx
            omega
          rw [if_pos e]
          refine ih (k + 1) _ _ A nx (by omega) (by omega) (hf1 m) (fun q hq => ?_) hO
          rw [hA q hq]
          by_cases l : q < k ∧ fmM s0 P q = true ∧ q ≠ P
          · rw [if_pos l, if_pos ⟨by omega, l.2⟩]
          · rw [if_neg l, if_neg (fun y => l ⟨by have := y.2.2; omega, y.2⟩)]
        · have ek : k ≠ P := fun y => e (Int32.toInt_inj.mp (by rw [hx, ha, y]))
          rw [if_neg e, sails_v hx (by omega), bnV_mk, va_up_self, up_up]
          refine ih (k + 1) _ _ _ nx (by omega) (by omega) (hf1 m) (fun q hq => ?_) (fun i hi => ?_)
          · by_cases l : q = k
            · rw [l, upd_n _ _ (by omega), upd_s, if_pos ⟨Nat.lt_succ_self _, m, ek⟩]
            · rw [upd_n _ _ (by omega), upd_n _ _ (by omega), hA q hq]
              by_cases l2 : q < k ∧ fmM s0 P q = true ∧ q ≠ P
              · rw [if_pos l2, if_pos ⟨by omega, l2.2⟩]
              · rw [if_neg l2, if_neg (fun y => l2 ⟨by omega, y.2⟩)]
          · rw [upd_n _ _ (hi k 7 (by omega) (by decide)), upd_n _ _ (hi k 3 (by omega) (by decide))]
            exact hO i hi
      · rw [if_neg (fun y => m (eq1.mp y)), if_pos (show (0 : Int32) = 0 from rfl)]
        refine ih (k + 1) _ f A nx (by omega) (by omega) (fun q => ?_) (fun q hq => ?_) hO
        · rw [hf q]
          by_cases l : q < k ∧ fmM s0 P q = true
          · rw [if_pos l, if_pos ⟨by omega, l.2⟩]
          · rw [if_neg l, if_neg (fun y => by
              by_cases e : q = k
              · rw [e] at y; exact m y.2
              · exact l ⟨by omega, y.2⟩)]
        · rw [hA q hq]
          by_cases l : q < k ∧ fmM s0 P q = true ∧ q ≠ P
          · rw [if_pos l, if_pos ⟨by omega, l.2⟩]
          · rw [if_neg l, if_neg (fun y => by
              by_cases e : q = k
              · rw [e] at y; exact m y.2.1
              · exact l ⟨by omega, y.2⟩)]
/-- a family of the reference -/
theorem family_v {a0 a1 a2 : Int32} {N P L : Nat} (hS : (si 384 5).toInt = (N : Int)) (hN : N ≤ 40) (hL : (si 384 4).toInt = (L : Int)) (hL5 : L ≤ 5) (ha : a0.toInt = (P : Int)) (hP : P < N) (hM : fmM si P P = true) : ∃ s' : Nat → Nat → Int32, g_X12_family a0 a1 a2 U V si sj sq = ((if a2 < Int32.ofNat (cbN (fmM si P) N) ∨ L ≤ fLot (frE (si 384) N) (Int32.ofNat (cbN (fmM si P) N)) 0 L then 0 else Int32.ofNat (cbN (fmM si P) N)), U, V, s', sj, sq) ∧ FMW si s' N P (if a2 < Int32.ofNat (cbN (fmM si P) N) ∨ L ≤ fLot (frE (si 384) N) (Int32.ofNat (cbN (fmM si P) N)) 0 L then none else some (lotP (fLot (frE (si 384) N) (Int32.ofNat (cbN (fmM si P) N)) 0 L))) := by
  have k0 : (0 : Int32).toInt = 0 := by decide
  have n37 : ∀ q p k, p < 40 → k ∈ [3, 7] → 740 + 12 * q ≠ 740 + 12 * p + k := fun q p k hp hk => by
    simp only [List.mem_cons, List.not_mem_nil, or_false] at hk
    omega
  rw [g_X12_family_e, bn_n (pa3 ha (by omega)), fm_14 (a1 := a1) (a2 := a2) hS hN ha hP rfl hM ((40 - (0 : Int32).toInt).toNat + 1) 0 0 0 k0 (by rw [k0]; omega) (Nat.zero_le _) k0, fm_56 hS hN hL hL5 ((5 - (0 : Int32).toInt).toNat + 1) 0 0 k0 (by rw [k0]; omega) (Nat.zero_le _), Nat.sub_zero]
  generalize Int32.ofNat (cbN (fmM si P) N) = c
  generalize fLot (frE (si 384) N) c 0 L = j
  by_cases q : a2 < c ∨ L ≤ j
  · rw [if_pos q, if_pos q, if_pos q, g_X12_family_K105_e, g_X12_family_K106_2_e]
    obtain ⟨f', g1, g2⟩ := fm_112 (U := U) (V := V) (sj := sj) (sq := sq) (s0 := si) hS hN ha hP rfl hM ((40 - (0 : Int32).toInt).toNat + 1) 0 0 (si 412) k0 (by rw [k0]; omega) (Nat.zero_le _) (fun q => by rw [if_neg (fun y => absurd y.1 (Nat.not_lt_zero _))])
    rw [up_id] at g1
    refine ⟨_, g1, fun t h3 h4 => va_up_ne _ _ h4, fun q hq => ?_, fun q hq => ?_, fun i _ => ?_⟩
    · rw [va_up_self, g2 q]
      by_cases l : fmM si P q = true
      · rw [if_pos ⟨hq, l⟩, if_pos l]
      · rw [if_neg (fun y => l y.2), if_neg l]
    · show va_up si 412 f' 384 (740 + 12 * q + 3) = si 384 (740 + 12 * q + 3)
      rw [va_up_ne _ _ (show (384 : Nat) ≠ 412 by decide)]
    · rw [va_up_ne _ _ (show (384 : Nat) ≠ 412 by decide)]
  · rw [if_neg q, if_neg q, if_neg q, g_X12_family_K106_e]
    obtain ⟨f', A', g1, g2, g3, g4⟩ := fm_111 (U := U) (V := V) (sj := sj) (sq := sq) (a1 := a1) (c := c) (z := Int32.ofNat j) (s0 := si) hS hN ha hP rfl hM ((40 - (0 : Int32).toInt).toNat + 1) 0 0 (si 412) (si 384) k0 (by rw [k0]; omega) (Nat.zero_le _) (fun q => by rw [if_neg (fun y => absurd y.1 (Nat.not_lt_zero _))]) (fun q hq => by rw [if_neg (fun y => absurd y.1 (Nat.not_lt_zero _))]) (fun _ _ => rfl)
    rw [up_id, up_id] at g1
    refine ⟨_, g1, fun t h3 h4 => by rw [va_up_ne _ _ h3, va_up_ne _ _ h4], fun q hq => ?_, fun q hq => ?_, fun i hi => ?_⟩
    · rw [va_up_ne _ _ (show (412 : Nat) ≠ 384 by decide), va_up_self, g2 q]
      by_cases l : fmM si P q = true
      · rw [if_pos ⟨hq, l⟩, if_pos l]
      · rw [if_neg (fun y => l y.2), if_neg l]
    · show va_up (va_up si 412 f') 384 A' 384 (740 + 12 * q + 3) = (if q < N ∧ fmM si P q = true then lotP j else si 384 (740 + 12 * q + 3))
      rw [va_up_self, g3 q hq]
      rfl
    · rw [va_up_self]
      exact g4 i hi
end PK7
