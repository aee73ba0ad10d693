/-! ===== pure: an EITHER's code, by kinds: values (false) and truths (true) (behind pr6) ===== -/
section PT9
def eTs (x : Int32) (S : List Bool) : Option (List Bool) :=
  if (0 ≤ x.toInt ∧ x.toInt ≤ 9999) ∨ (-17 ≤ x.toInt ∧ x.toInt ≤ -12) then (if S.length ≤ 38 then some (false :: S) else none)
  else if x.toInt = -11 then (match S with | true :: R => some (true :: R) | _ => none)
  else if x.toInt = -35 then (match S with | false :: R => some (false :: R) | _ => none)
  else if x.toInt = -9 ∨ x.toInt = -10 then (match S with | true :: true :: R => some (true :: R) | _ => none)
  else if -24 ≤ x.toInt ∧ x.toInt ≤ -19 then (match S with | false :: false :: R => some (true :: R) | _ => none)
  else if -28 ≤ x.toInt ∧ x.toInt ≤ -25 then (match S with | false :: false :: R => some (false :: R) | _ => none)
  else none
def eTr : List Int32 → List Bool → Option (List Bool)
  | [], S => some S
  | x :: E, S => match eTs x S with | none => none | some R => eTr E R
/-- the kinds of the operands that wait -/
def eTy : List Int32 → List Bool
  | [] => []
  | c :: L => if c = 9 ∨ c = 10 then true :: eTy L else if 19 ≤ c.toInt ∧ c.toInt ≤ 28 then false :: eTy L else eTy L
theorem eTs_p {x : Int32} {S : List Bool} (h : (0 ≤ x.toInt ∧ x.toInt ≤ 9999) ∨ (-17 ≤ x.toInt ∧ x.toInt ≤ -12)) (hl : S.length ≤ 38) : eTs x S = some (false :: S) := by
  unfold eTs
  rw [if_pos h, if_pos hl]
theorem eTs_11 {R : List Bool} : eTs (-11) (true :: R) = some (true :: R) := by
  unfold eTs
  rw [if_neg (show ¬ ((0 ≤ (-11 : Int32).toInt ∧ (-11 : Int32).toInt ≤ 9999) ∨ (-17 ≤ (-11 : Int32).toInt ∧ (-11 : Int32).toInt ≤ -12)) by decide), if_pos (show (-11 : Int32).toInt = -11 by decide)]
theorem eTs_35 {R : List Bool} : eTs (-35) (false :: R) = some (false :: R) := by
  unfold eTs
  rw [if_neg (show ¬ ((0 ≤ (-35 : Int32).toInt ∧ (-35 : Int32).toInt ≤ 9999) ∨ (-17 ≤ (-35 : Int32).toInt ∧ (-35 : Int32).toInt ≤ -12)) by decide), if_neg (show ¬ (-35 : Int32).toInt = -11 by decide), if_pos (show (-35 : Int32).toInt = -35 by decide)]
theorem ng_i {c : Int32} (h : 0 ≤ c.toInt ∧ c.toInt ≤ 100) : (-c).toInt = -c.toInt := by
  have e : (0 : Int32) - c = -c := by grind
  have := i_sub (x := (0 : Int32)) (y := c) (show (0 : Int32).toInt = 0 by decide) rfl (by omega) (by omega)
  rw [e] at this
  omega
theorem eTs_ar {c : Int32} {R : List Bool} (h : 25 ≤ c.toInt ∧ c.toInt ≤ 28) : eTs (-c) (false :: false :: R) = some (false :: R) := by
  have e := ng_i (c := c) (by omega)
  unfold eTs
  rw [e, if_neg (by omega), if_neg (by omega), if_neg (by omega), if_neg (by omega), if_neg (by omega), if_pos (by omega)]
theorem eTs_cm {c : Int32} {R : List Bool} (h : 19 ≤ c.toInt ∧ c.toInt ≤ 24) : eTs (-c) (false :: false :: R) = some (true :: R) := by
  have e := ng_i (c := c) (by omega)
  unfold eTs
  rw [e, if_neg (by omega), if_neg (by omega), if_neg (by omega), if_neg (by omega), if_pos (by omega)]
theorem eTr_c {x : Int32} {E : List Int32} {S R : List Bool} (h : eTs x S = some R) : eTr (x :: E) S = eTr E R := by
  show (match eTs x S with | none => none | some R => eTr E R) = eTr E R
  rw [h]
theorem eTr_app : ∀ (E F : List Int32) (S R : List Bool), eTr E S = some R → eTr (E ++ F) S = eTr F R
  | [], F, S, R, h => by
    have e : S = R := Option.some.inj h
    rw [e]; rfl
  | x :: E, F, S, R, h => by
    show (match eTs x S with | none => none | some R => eTr (E ++ F) R) = _
    have h' : (match eTs x S with | none => none | some R => eTr E R) = some R := h
    cases q : eTs x S with
    | none => rw [q] at h'; exact absurd h' (by simp)
    | some R1 =>
      rw [q] at h'
      exact eTr_app E F R1 R h'
theorem eTy_len : ∀ L : List Int32, (eTy L).length ≤ L.length
  | [] => Nat.le_refl _
  | c :: L => by
    have i := eTy_len L
    unfold eTy
    split
    · show (eTy L).length + 1 ≤ L.length + 1; omega
    · split
      · show (eTy L).length + 1 ≤ L.length + 1; omega
      · show (eTy L).length ≤ L.length + 1; omega
theorem eTy_no {c : Int32} {L : List Int32} (h : c = 11 ∨ c = 29 ∨ c = 35) : eTy (c :: L) = eTy L := by
  show (if c = 9 ∨ c = 10 then true :: eTy L else if 19 ≤ c.toInt ∧ c.toInt ≤ 28 then false :: eTy L else eTy L) = _
  rw [if_neg (fun y => by rcases h with h | h | h <;> rcases y with y | y <;> rw [h] at y <;> exact absurd y (by decide)), if_neg (fun y => by rcases h with h | h | h <;> rw [h] at y <;> exact absurd y (by decide))]
theorem eTy_v {c : Int32} {L : List Int32} (h : 19 ≤ c.toInt ∧ c.toInt ≤ 28) : eTy (c :: L) = false :: eTy L := by
  show (if c = 9 ∨ c = 10 then true :: eTy L else if 19 ≤ c.toInt ∧ c.toInt ≤ 28 then false :: eTy L else eTy L) = _
  rw [if_neg (fun y => by rcases y with y | y <;> rw [y] at h <;> exact absurd h (by decide)), if_pos h]
theorem eTy_t {c : Int32} {L : List Int32} (h : c = 9 ∨ c = 10) : eTy (c :: L) = true :: eTy L := if_pos h
theorem eTy_rep {c : Int32} (h : c = 11 ∨ c = 29 ∨ c = 35) {L : List Int32} : ∀ k : Nat, eTy (List.replicate k c ++ L) = eTy L
  | 0 => rfl
  | k + 1 => by
    rw [List.replicate_succ]
    show eTy (c :: (List.replicate k c ++ L)) = eTy L
    rw [eTy_no h, eTy_rep h k]
/-- what waits of a SUM -/
def eAr (A : List Int32) : Prop := ∀ x, x ∈ A → x = 29 ∨ x = 35 ∨ (25 ≤ x.toInt ∧ x.toInt ≤ 28)
theorem eAr_P : ∀ (P : List Int32) (q : Nat), okP q P → eAr (P.map mpc)
  | [], _, _ => fun x hx => by cases hx
  | y :: P, q, h => fun x hx => by
    have hx' : x ∈ mpc y :: P.map mpc := hx
    have tl : ∀ q2 : Nat, okP q2 P → x ∈ P.map mpc → x = 29 ∨ x = 35 ∨ (25 ≤ x.toInt ∧ x.toInt ≤ 28) := fun q2 h2 h3 => eAr_P P q2 h2 x h3
    rcases h with ⟨a, b⟩ | ⟨a, _, b⟩ | ⟨a, _, b⟩ | ⟨a, _, b⟩
    · rcases List.mem_cons.mp hx' with e | e
      · rw [e, a]; decide
      · exact tl 0 b e
    · rcases List.mem_cons.mp hx' with e | e
      · rw [e, a]; decide
      · exact tl 0 b e
    · rcases List.mem_cons.mp hx' with e | e
      · rw [e]; rcases a with a | a <;> rw [a] <;> decide
      · exact tl 1 b e
    · rcases List.mem_cons.mp hx' with e | e
      · rw [e]; rcases a with a | a <;> rw [a] <;> decide
      · exact tl 2 b e
theorem popE_no {a : Int32} : ∀ {B : List Int32}, popR a B = B → popE a B = []
  | [], _ => rfl
  | x :: B, h => by
    by_cases q : g_X4_rank x < a
    · exact popE_s q
    · exfalso
      rw [popR_c q] at h
      have len : ∀ L : List Int32, (popR a L).length ≤ L.length := by
        intro L
        induction L with
        | nil => exact Nat.le_refl _
        | cons y L ih =>
          by_cases w : g_X4_rank y < a
          · rw [popR_s w]; exact Nat.le_refl _
          · rw [popR_c w]; exact Nat.le_trans ih (Nat.le_succ _)
      have l1 := congrArg List.length h
      have l2 := len B
      have l3 : (x :: B).length = B.length + 1 := rfl
      omega
/-- what settles of a SUM -/
theorem eTr_pop {a : Int32} (ha : 1 ≤ a.toInt) : ∀ (A B : List Int32), eAr A → ((29 : Int32) ∈ A ∨ popR a B = B) → eTr (popE a (A ++ B)) (false :: eTy (A ++ B)) = some (false :: eTy (popR a (A ++ B)))
  | [], B, _, h => by
    rcases h with h | h
    · cases h
    · show eTr (popE a B) (false :: eTy B) = some (false :: eTy (popR a B))
      rw [popE_no h, h]; rfl
  | x :: A, B, hA, h => by
    show eTr (popE a (x :: (A ++ B))) (false :: eTy (x :: (A ++ B))) = some (false :: eTy (popR a (x :: (A ++ B))))
    by_cases q : g_X4_rank x < a
    · rw [popE_s q, popR_s q]; rfl
    · rw [popE_c q, popR_c q]
      have r29 : g_X4_rank 29 < a := Int32.lt_iff_toInt_lt.mpr (by have : (g_X4_rank 29).toInt = 0 := by decide
                                                                   omega)
      have x29 : x ≠ 29 := fun e => q (by rw [e]; exact r29)
      have ih := eTr_pop ha A B (fun y hy => hA y (List.mem_cons_of_mem _ hy)) (by
        rcases h with h | h
        · rcases List.mem_cons.mp h with e | e
          · exact absurd e.symm x29
          · exact Or.inl e
        · exact Or.inr h)
      rcases hA x (List.mem_cons_self ..) with e | e | e
      · exact absurd e x29
      · rw [eTy_no (Or.inr (Or.inr e)), e]
        rw [show (-35 : Int32) = -35 from rfl, eTr_c eTs_35]
        exact ih
      · rw [eTy_v (by omega), eTr_c (eTs_ar e)]
        exact ih
/-- what waits of a SUM, all of it -/
theorem eTr_all : ∀ (A B : List Int32), eAr A → (29 : Int32) ∉ A → eTr (A.map (fun x => -x)) (false :: eTy (A ++ B)) = some (false :: eTy B)
  | [], B, _, _ => rfl
  | x :: A, B, hA, h => by
    show eTr (-x :: A.map (fun x => -x)) (false :: eTy (x :: (A ++ B))) = _
    have ih := eTr_all A B (fun y hy => hA y (List.mem_cons_of_mem _ hy)) (fun y => h (List.mem_cons_of_mem _ y))
    rcases hA x (List.mem_cons_self ..) with e | e | e
    · exact absurd (e ▸ List.mem_cons_self ..) h
    · rw [eTy_no (Or.inr (Or.inr e)), e]
      rw [show -(35 : Int32) = -35 from rfl, eTr_c eTs_35]
      exact ih
    · rw [eTy_v (by omega), eTr_c (eTs_ar e)]
      exact ih
theorem eTr_35 {R : List Bool} : ∀ k : Nat, eTr (List.replicate k (-35)) (false :: R) = some (false :: R)
  | 0 => rfl
  | k + 1 => by rw [List.replicate_succ, eTr_c eTs_35]; exact eTr_35 k
theorem eTr_11 {R : List Bool} : ∀ k : Nat, eTr (List.replicate k (-11)) (true :: R) = some (true :: R)
  | 0 => rfl
  | k + 1 => by rw [List.replicate_succ, eTr_c eTs_11]; exact eTr_11 k
theorem eTr_2 {E F : List Int32} {S R Q : List Bool} (h : eTr E S = some R) (h2 : eTr F R = some Q) : eTr (E ++ F) S = some Q := (eTr_app E F S R h).trans h2
theorem n40_29 : ∀ P : List Int32, cn40 P = 0 → (29 : Int32) ∉ P.map mpc
  | [], _ => fun h => by cases h
  | x :: P, h => fun hm => by
    have h' : (if x = 40 then 1 else 0) + cn40 P = 0 := h
    by_cases q : x = 40
    · rw [if_pos q] at h'; omega
    · rw [if_neg q] at h'
      have hm' : (29 : Int32) ∈ mpc x :: P.map mpc := hm
      rcases List.mem_cons.mp hm' with e | e
      · have m : ∀ y : Int32, y ≠ 40 → mpc y ≠ 29 := fun y hy => by
          unfold mpc
          rw [if_neg hy]
          split
          · decide
          · split
            · decide
            · split
              · decide
              · split
                · decide
                · decide
        exact m x q e.symm
      · exact n40_29 P (by omega) e
end PT9
