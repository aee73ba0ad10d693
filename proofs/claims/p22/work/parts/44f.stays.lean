/-! ===== fault and place stay, or there is a fault ===== -/
def ST (I I1 : Nat → Int32) : Prop := I1 129 ≠ 0 ∨ (I1 129 = I 129 ∧ I1 130 = I 130)
def STG {β : Type} (π : β → vM) (I : Nat → Int32) (b : β) : Prop := ST I (π b).1
section STS
variable {α β γ : Type} {π : β → vM} {s : wS} {I I1 I2 : Nat → Int32} {μ : vM}
theorem st_rf : ST I I := Or.inr ⟨rfl, rfl⟩
theorem st_tr (h : ST I I1) (k : ST I1 I2) : ST I I2 := by
  rcases k with k | ⟨k1, k2⟩
  · exact Or.inl k
  · rcases h with h | ⟨h1, h2⟩
    · exact Or.inl (by rw [k1]; exact h)
    · exact Or.inr ⟨k1.trans h1, k2.trans h2⟩
theorem st_rt {b : β} (h : (π b).1 = I) : STG π I b := by unfold STG; rw [h]; exact st_rf
theorem st_ap {v : γ} {k : γ → β} (h : ∀ z, STG π I (k z)) : STG π I (ap1 v k) := h v
theorem st_if {c : Prop} [Decidable c] {a b : β} (h1 : STG π I a) (h2 : STG π I b) : STG π I (if c then a else b) := by split <;> assumption
theorem st_I {f : Nat} {v : Int32} {k : (Nat → Int32) → β} (h9 : 129 ≠ f) (h0 : 130 ≠ f) (h : ∀ x, STG π x (k x)) : STG π I (ap1 (va_up I f v) k) := st_tr (I1 := va_up I f v) (Or.inr ⟨va_up_ne _ _ h9, va_up_ne _ _ h0⟩) (h _)
theorem st_fr {p : α} {ρ : α → vM} {J : Nat → Int64} {ri : Nat → Nat → Int32} {rj : Nat → Nat → Int64} {rq : Nat → Nat → Option Nat} (h : FRG ρ s (I, J, ri, rj, rq) p) (h9 : 129 ∉ s.1) (h0 : 130 ∉ s.1) : STG ρ I p := Or.inr ⟨h.1 129 h9, h.1 130 h0⟩
theorem st_bI {p : α × vM} {k : α → (Nat → Int32) → (Nat → Int64) → (Nat → Nat → Int32) → (Nat → Nat → Int64) → (Nat → Nat → Option Nat) → β} (hp : STG Prod.snd I p) (h : ∀ r I J ri rj rq, STG π I (k r I J ri rj rq)) : STG π I (bnI p k) := st_tr hp (h _ _ _ _ _ _)
theorem st_bV {p : vM} {k : (Nat → Int32) → (Nat → Int64) → (Nat → Nat → Int32) → (Nat → Nat → Int64) → (Nat → Nat → Option Nat) → β} (hp : STG id I p) (h : ∀ I J ri rj rq, STG π I (k I J ri rj rq)) : STG π I (bnV p k) := st_tr hp (h _ _ _ _ _)
theorem st_b0 {p : α × vM} {k : α → (Nat → Int32) → (Nat → Int64) → (Nat → Nat → Int32) → (Nat → Nat → Int64) → (Nat → Nat → Option Nat) → β} (h : ∀ r I1 J ri rj rq, STG π I (k r I1 J ri rj rq)) : STG π I (bnI p k) := h _ _ _ _ _ _
end STS
theorem g_X4_refuse_s {a0 : Int32} {I : Nat → Int32} {J : Nat → Int64} {ri : Nat → Nat → Int32} {rj : Nat → Nat → Int64} {rq : Nat → Nat → Option Nat} (ha : a0 ≠ 0) : STG id I (g_X4_refuse a0 I J ri rj rq) := by
  rw [g_X4_refuse_e]
  by_cases c : I 129 = 0
  · refine Or.inl ?_
    show (ite (I 129 = 0) _ _ : vM).1 129 ≠ 0
    rw [if_pos c]
    show va_up (va_up I 129 a0) 130 (va_up I 129 a0 195) 129 ≠ 0
    rw [va_up_ne _ _ (show (129 : Nat) ≠ 130 by decide), va_up_self]
    exact ha
  · refine Or.inr ?_
    show (ite (I 129 = 0) _ _ : vM).1 129 = _ ∧ (ite (I 129 = 0) _ _ : vM).1 130 = _
    rw [if_neg c]
    exact ⟨rfl, rfl⟩
theorem g_X4_openUp_s {a0 : Int32} {I : Nat → Int32} {J : Nat → Int64} {ri : Nat → Nat → Int32} {rj : Nat → Nat → Int64} {rq : Nat → Nat → Option Nat}  : STG id I (g_X4_openUp  a0 I J ri rj rq) := by
  rw [g_X4_openUp_e]
  refine st_ap (fun y_1 => ?_)
  refine st_if ?_ ?_
  · refine st_ap (fun x_9 => ?_)
    refine st_I (by decide) (by decide) (fun I_11 => ?_)
    refine st_if ?_ ?_
    · refine st_ap (fun y_67 => ?_)
      refine st_ap (fun x_68 => ?_)
      refine st_I (by decide) (by decide) (fun I_69 => ?_)
      refine st_I (by decide) (by decide) (fun I_77 => ?_)
      refine st_bV (st_fr g_X4_await_f (by decide) (by decide)) (fun I_83 _ ri_84 _ _ => ?_)
      exact st_rt rfl
    · refine st_if ?_ ?_
      · refine st_I (by decide) (by decide) (fun I_46 => ?_)
        refine st_bV (st_fr g_X4_await_f (by decide) (by decide)) (fun I_52 _ ri_53 _ _ => ?_)
        exact st_rt rfl
      · refine st_I (by decide) (by decide) (fun I_25 => ?_)
        refine st_bV (st_fr g_X4_await_f (by decide) (by decide)) (fun I_31 _ ri_32 _ _ => ?_)
        exact st_rt rfl
  · refine st_bV (g_X4_refuse_s (by decide)) (fun I_101 _ _ _ _ => ?_)
    refine st_ap (fun y_111 => ?_)
    refine st_ap (fun x_112 => ?_)
    refine st_I (by decide) (by decide) (fun I_113 => ?_)
    refine st_if ?_ ?_
    · refine st_ap (fun y_169 => ?_)
      refine st_ap (fun x_170 => ?_)
      refine st_I (by decide) (by decide) (fun I_171 => ?_)
      refine st_I (by decide) (by decide) (fun I_179 => ?_)
      refine st_bV (st_fr g_X4_await_f (by decide) (by decide)) (fun I_185 _ ri_186 _ _ => ?_)
      exact st_rt rfl
    · refine st_if ?_ ?_
      · refine st_I (by decide) (by decide) (fun I_148 => ?_)
        refine st_bV (st_fr g_X4_await_f (by decide) (by decide)) (fun I_154 _ ri_155 _ _ => ?_)
        exact st_rt rfl
      · refine st_I (by decide) (by decide) (fun I_127 => ?_)
        refine st_bV (st_fr g_X4_await_f (by decide) (by decide)) (fun I_133 _ ri_134 _ _ => ?_)
        exact st_rt rfl

theorem g_X4_readOne_s {I : Nat → Int32} {J : Nat → Int64} {ri : Nat → Nat → Int32} {rj : Nat → Nat → Int64} {rq : Nat → Nat → Option Nat}  : STG Prod.snd I (g_X4_readOne  I J ri rj rq) := by
  rw [g_X4_readOne_e]
  refine st_ap (fun y_1 => ?_)
  refine st_if ?_ ?_
  · refine st_ap (fun y_172 => ?_)
    refine st_if ?_ ?_
    · refine st_bV (st_fr g_X4_emit_f (by decide) (by decide)) (fun I_182 _ ri_183 _ _ => ?_)
      exact st_rt rfl
    · refine st_bV (g_X4_refuse_s (by decide)) (fun I_201 _ _ _ _ => ?_)
      refine st_ap (fun y_213 => ?_)
      refine st_bV (st_fr g_X4_emit_f (by decide) (by decide)) (fun I_216 _ ri_217 _ _ => ?_)
      exact st_rt rfl
  · refine st_ap (fun x_7 => ?_)
    refine st_if ?_ ?_
    · refine st_if ?_ ?_
      · refine st_bV g_X4_openUp_s (fun I_38 _ ri_39 _ _ => ?_)
        exact st_rt rfl
      · refine st_if ?_ ?_
        · refine st_bV g_X4_openUp_s (fun I_65 _ ri_66 _ _ => ?_)
          exact st_rt rfl
        · refine st_if ?_ ?_
          · refine st_ap (fun y_103 => ?_)
            refine st_if ?_ ?_
            · refine st_bV (g_X4_refuse_s (by decide)) (fun I_113 _ _ _ _ => ?_)
              exact st_rt rfl
            · refine st_bV g_X4_openUp_s (fun I_133 _ ri_134 _ _ => ?_)
              exact st_rt rfl
          · refine st_bV (g_X4_refuse_s (by decide)) (fun I_88 _ _ _ _ => ?_)
            exact st_rt rfl
    · refine st_ap (fun x_151 => ?_)
      refine st_bV (st_fr g_X4_emit_f (by decide) (by decide)) (fun I_155 _ ri_156 _ _ => ?_)
      exact st_rt rfl

theorem g_X4_readBehindOne_s {I : Nat → Int32} {J : Nat → Int64} {ri : Nat → Nat → Int32} {rj : Nat → Nat → Int64} {rq : Nat → Nat → Option Nat}  : STG Prod.snd I (g_X4_readBehindOne  I J ri rj rq) := by
  rw [g_X4_readBehindOne_e]
  refine st_ap (fun y_1 => ?_)
  refine st_I (by decide) (by decide) (fun I_2 => ?_)
  refine st_if ?_ ?_
  · refine st_ap (fun y_15 => ?_)
    refine st_if ?_ ?_
    · refine st_ap (fun y_24 => ?_)
      refine st_if ?_ ?_
      · refine st_if ?_ ?_
        · refine st_bV (g_X4_refuse_s (by decide)) (fun I_220 _ _ _ _ => ?_)
          refine st_bV (st_fr g_X4_settle_f (by decide) (by decide)) (fun I_234 _ ri_235 _ _ => ?_)
          refine st_I (by decide) (by decide) (fun I_248 => ?_)
          exact st_rt rfl
        · refine st_I (by decide) (by decide) (fun I_263 => ?_)
          refine st_ap (fun x_269 => ?_)
          refine st_bV (st_fr g_X4_settle_f (by decide) (by decide)) (fun I_278 _ ri_279 _ _ => ?_)
          refine st_bV (st_fr g_X4_await_f (by decide) (by decide)) (fun I_294 _ ri_295 _ _ => ?_)
          exact st_rt rfl
      · refine st_if ?_ ?_
        · refine st_I (by decide) (by decide) (fun I_43 => ?_)
          refine st_I (by decide) (by decide) (fun I_49 => ?_)
          refine st_ap (fun x_55 => ?_)
          refine st_bV (st_fr g_X4_settle_f (by decide) (by decide)) (fun I_64 _ ri_65 _ _ => ?_)
          refine st_bV (st_fr g_X4_await_f (by decide) (by decide)) (fun I_80 _ ri_81 _ _ => ?_)
          exact st_rt rfl
        · refine st_if ?_ ?_
          · refine st_I (by decide) (by decide) (fun I_149 => ?_)
            refine st_I (by decide) (by decide) (fun I_155 => ?_)
            refine st_ap (fun x_161 => ?_)
            refine st_bV (st_fr g_X4_settle_f (by decide) (by decide)) (fun I_170 _ ri_171 _ _ => ?_)
            refine st_bV (st_fr g_X4_await_f (by decide) (by decide)) (fun I_186 _ ri_187 _ _ => ?_)
            exact st_rt rfl
          · refine st_bV (g_X4_refuse_s (by decide)) (fun I_113 _ _ _ _ => ?_)
            refine st_bV (st_fr g_X4_settle_f (by decide) (by decide)) (fun I_127 _ ri_128 _ _ => ?_)
            refine st_I (by decide) (by decide) (fun I_141 => ?_)
            exact st_rt rfl
    · refine st_bV (g_X4_refuse_s (by decide)) (fun I_318 _ _ _ _ => ?_)
      refine st_bV (st_fr g_X4_settle_f (by decide) (by decide)) (fun I_332 _ ri_333 _ _ => ?_)
      refine st_ap (fun y_346 => ?_)
      refine st_ap (fun x_347 => ?_)
      refine st_I (by decide) (by decide) (fun I_348 => ?_)
      refine st_ap (fun y_354 => ?_)
      refine st_ap (fun x_355 => ?_)
      refine st_I (by decide) (by decide) (fun I_356 => ?_)
      refine st_ap (fun y_363 => ?_)
      refine st_ap (fun x_364 => ?_)
      refine st_ap (fun x_366 => ?_)
      refine st_I (by decide) (by decide) (fun I_368 => ?_)
      exact st_rt rfl
  · refine st_if ?_ ?_
    · refine st_ap (fun y_383 => ?_)
      refine st_if ?_ ?_
      · refine st_ap (fun y_392 => ?_)
        refine st_if ?_ ?_
        · refine st_bV (g_X4_refuse_s (by decide)) (fun I_506 _ _ _ _ => ?_)
          refine st_bV (st_fr g_X4_settle_f (by decide) (by decide)) (fun I_520 _ ri_521 _ _ => ?_)
          refine st_I (by decide) (by decide) (fun I_534 => ?_)
          exact st_rt rfl
        · refine st_if ?_ ?_
          · refine st_bV (st_fr g_X4_settle_f (by decide) (by decide)) (fun I_427 _ ri_428 _ _ => ?_)
            refine st_I (by decide) (by decide) (fun I_441 => ?_)
            exact st_rt rfl
          · refine st_bV (g_X4_refuse_s (by decide)) (fun I_450 _ _ _ _ => ?_)
            refine st_bV (st_fr g_X4_settle_f (by decide) (by decide)) (fun I_464 _ ri_465 _ _ => ?_)
            refine st_I (by decide) (by decide) (fun I_478 => ?_)
            exact st_rt rfl
      · refine st_if ?_ ?_
        · refine st_bV (st_fr g_X4_settle_f (by decide) (by decide)) (fun I_553 _ ri_554 _ _ => ?_)
          refine st_ap (fun y_567 => ?_)
          refine st_ap (fun x_568 => ?_)
          refine st_I (by decide) (by decide) (fun I_569 => ?_)
          refine st_ap (fun y_575 => ?_)
          refine st_ap (fun x_576 => ?_)
          refine st_I (by decide) (by decide) (fun I_577 => ?_)
          refine st_ap (fun y_584 => ?_)
          refine st_ap (fun x_585 => ?_)
          refine st_ap (fun x_587 => ?_)
          refine st_I (by decide) (by decide) (fun I_589 => ?_)
          exact st_rt rfl
        · refine st_bV (g_X4_refuse_s (by decide)) (fun I_598 _ _ _ _ => ?_)
          refine st_bV (st_fr g_X4_settle_f (by decide) (by decide)) (fun I_612 _ ri_613 _ _ => ?_)
          refine st_ap (fun y_626 => ?_)
          refine st_ap (fun x_627 => ?_)
          refine st_I (by decide) (by decide) (fun I_628 => ?_)
          refine st_ap (fun y_634 => ?_)
          refine st_ap (fun x_635 => ?_)
          refine st_I (by decide) (by decide) (fun I_636 => ?_)
          refine st_ap (fun y_643 => ?_)
          refine st_ap (fun x_644 => ?_)
          refine st_ap (fun x_646 => ?_)
          refine st_I (by decide) (by decide) (fun I_648 => ?_)
          exact st_rt rfl
    · refine st_ap (fun x_656 => ?_)
      refine st_bV (st_fr g_X4_settle_f (by decide) (by decide)) (fun I_665 _ ri_666 _ _ => ?_)
      refine st_bV (st_fr g_X4_await_f (by decide) (by decide)) (fun I_681 _ ri_682 _ _ => ?_)
      exact st_rt rfl

theorem g_X4_readEither_L34_s {J : Nat → Int64} {rj : Nat → Nat → Int64} {rq : Nat → Nat → Option Nat}  : ∀ (n_1571 : Nat) (x_1489 : Int32) (x_1490 : Int32) (I_1491 : Nat → Int32) (ri_1492 : Nat → Nat → Int32), STG id I_1491 (g_X4_readEither_L34 J rj rq n_1571 x_1489 x_1490 I_1491 ri_1492) := by
  intro n_1571
  induction n_1571 with
  | zero => intros; exact st_rt rfl
  | succ n_1571 ih =>
    intro x_1489 x_1490 I_1491 ri_1492
    rw [g_X4_readEither_L34_e]
    refine st_if ?_ ?_
    · exact st_rt rfl
    · refine st_ap (fun y_1591 => ?_)
      refine st_if ?_ ?_
      · refine st_ap (fun y_1600 => ?_)
        refine st_if ?_ ?_
        · refine st_bV (st_fr g_X6_advance_f (by decide) (by decide)) (fun I_1612 _ _ _ _ => ?_)
          refine st_if ?_ ?_
          · refine st_bI g_X4_readBehindOne_s (fun x_1632 I_1634 _ ri_1635 _ _ => ?_)
            refine st_ap (fun x_1648 => ?_)
            exact ih _ _ _ _
          · refine st_bI g_X4_readOne_s (fun x_1652 I_1654 _ ri_1655 _ _ => ?_)
            refine st_ap (fun x_1668 => ?_)
            exact ih _ _ _ _
        · exact st_rt rfl
      · exact st_rt rfl
theorem g_X4_readEither_s {I : Nat → Int32} {J : Nat → Int64} {ri : Nat → Nat → Int32} {rj : Nat → Nat → Int64} {rq : Nat → Nat → Option Nat}  : STG id I (g_X4_readEither  I J ri rj rq) := by
  rw [g_X4_readEither_e]
  refine st_I (by decide) (by decide) (fun I_1 => ?_)
  refine st_I (by decide) (by decide) (fun I_7 => ?_)
  refine st_I (by decide) (by decide) (fun I_13 => ?_)
  refine st_I (by decide) (by decide) (fun I_19 => ?_)
  refine st_I (by decide) (by decide) (fun I_25 => ?_)
  refine st_I (by decide) (by decide) (fun I_31 => ?_)
  exact g_X4_readEither_L34_s  _ _ _ _ _

theorem g_X4_expectSemicolon_s {I : Nat → Int32} {J : Nat → Int64} {ri : Nat → Nat → Int32} {rj : Nat → Nat → Int64} {rq : Nat → Nat → Option Nat}  : STG id I (g_X4_expectSemicolon  I J ri rj rq) := by
  rw [g_X4_expectSemicolon_e]
  refine st_ap (fun y_2 => ?_)
  refine st_if ?_ ?_
  · exact st_rt rfl
  · refine st_bV (g_X4_refuse_s (by decide)) (fun I_12 _ _ _ _ => ?_)
    exact st_rt rfl

theorem g_X4_readNumber_s {a0 : Int32} {I : Nat → Int32} {J : Nat → Int64} {ri : Nat → Nat → Int32} {rj : Nat → Nat → Int64} {rq : Nat → Nat → Option Nat}  : STG id I (g_X4_readNumber  a0 I J ri rj rq) := by
  rw [g_X4_readNumber_e]
  refine st_bV (st_fr g_X6_advance_f (by decide) (by decide)) (fun I_3 _ _ _ _ => ?_)
  refine st_ap (fun y_16 => ?_)
  refine st_if ?_ ?_
  · refine st_ap (fun y_23 => ?_)
    refine st_if ?_ ?_
    · refine st_bV (st_fr g_X4_emit_f (by decide) (by decide)) (fun I_32 _ ri_33 _ _ => ?_)
      refine st_bV (st_fr g_X6_advance_f (by decide) (by decide)) (fun I_49 _ _ _ _ => ?_)
      refine st_bV g_X4_expectSemicolon_s (fun I_64 _ _ _ _ => ?_)
      exact st_rt rfl
    · refine st_bV (g_X4_refuse_s (by decide)) (fun I_81 _ _ _ _ => ?_)
      exact st_rt rfl
  · refine st_bV (g_X4_refuse_s (by decide)) (fun I_96 _ _ _ _ => ?_)
    exact st_rt rfl

theorem g_X4_readKey_s {a0 : Int32} {I : Nat → Int32} {J : Nat → Int64} {ri : Nat → Nat → Int32} {rj : Nat → Nat → Int64} {rq : Nat → Nat → Option Nat}  : STG id I (g_X4_readKey  a0 I J ri rj rq) := by
  rw [g_X4_readKey_e]
  refine st_ap (fun y_1 => ?_)
  refine st_if ?_ ?_
  · refine st_if ?_ ?_
    · refine st_bV (st_fr g_X6_advance_f (by decide) (by decide)) (fun I_137 _ _ _ _ => ?_)
      refine st_ap (fun y_150 => ?_)
      refine st_ap (fun x_151 => ?_)
      refine st_if ?_ ?_
      · refine st_bV (g_X4_refuse_s (by decide)) (fun I_194 _ _ _ _ => ?_)
        refine st_ap (fun y_207 => ?_)
        refine st_ap (fun x_208 => ?_)
        refine st_bV (st_fr g_X4_emit_f (by decide) (by decide)) (fun I_211 _ ri_212 _ _ => ?_)
        exact st_rt rfl
      · refine st_ap (fun x_170 => ?_)
        refine st_bV (st_fr g_X4_emit_f (by decide) (by decide)) (fun I_174 _ ri_175 _ _ => ?_)
        exact st_rt rfl
    · refine st_bV (g_X4_refuse_s (by decide)) (fun I_230 _ _ _ _ => ?_)
      refine st_ap (fun y_244 => ?_)
      refine st_ap (fun x_245 => ?_)
      refine st_bV (st_fr g_X4_emit_f (by decide) (by decide)) (fun I_249 _ ri_250 _ _ => ?_)
      exact st_rt rfl
  · refine st_ap (fun x_8 => ?_)
    refine st_if ?_ ?_
    · refine st_bV (g_X4_refuse_s (by decide)) (fun I_93 _ _ _ _ => ?_)
      refine st_ap (fun y_106 => ?_)
      refine st_bV (st_fr g_X4_emit_f (by decide) (by decide)) (fun I_109 _ ri_110 _ _ => ?_)
      exact st_rt rfl
    · refine st_if ?_ ?_
      · refine st_bV (st_fr g_X4_emit_f (by decide) (by decide)) (fun I_37 _ ri_38 _ _ => ?_)
        exact st_rt rfl
      · refine st_bV (g_X4_refuse_s (by decide)) (fun I_56 _ _ _ _ => ?_)
        refine st_ap (fun y_70 => ?_)
        refine st_bV (st_fr g_X4_emit_f (by decide) (by decide)) (fun I_73 _ ri_74 _ _ => ?_)
        exact st_rt rfl

theorem g_X4_readKeys_L4_s {J : Nat → Int64} {rj : Nat → Nat → Int64} {rq : Nat → Nat → Option Nat}  : ∀ (n_777 : Nat) (x_650 : Int32) (x_651 : Int32) (I_652 : Nat → Int32) (ri_653 : Nat → Nat → Int32), STG id I_652 (g_X4_readKeys_L4 J rj rq n_777 x_650 x_651 I_652 ri_653) := by
  intro n_777
  induction n_777 with
  | zero => intros; exact st_rt rfl
  | succ n_777 ih =>
    intro x_650 x_651 I_652 ri_653
    rw [g_X4_readKeys_L4_e]
    refine st_if ?_ ?_
    · refine st_bV g_X4_expectSemicolon_s (fun I_797 _ _ _ _ => ?_)
      exact st_rt rfl
    · refine st_if ?_ ?_
      · refine st_bV g_X4_expectSemicolon_s (fun I_820 _ _ _ _ => ?_)
        exact st_rt rfl
      · refine st_ap (fun y_834 => ?_)
        refine st_if ?_ ?_
        · refine st_bV (st_fr g_X6_advance_f (by decide) (by decide)) (fun I_858 _ _ _ _ => ?_)
          refine st_bV g_X4_readKey_s (fun I_873 _ ri_874 _ _ => ?_)
          refine st_ap (fun x_885 => ?_)
          refine st_ap (fun y_887 => ?_)
          refine st_if ?_ ?_
          · refine st_bV (st_fr g_X6_advance_f (by decide) (by decide)) (fun I_905 _ _ _ _ => ?_)
            refine st_ap (fun y_918 => ?_)
            refine st_if ?_ ?_
            · exact ih _ _ _ _
            · exact ih _ _ _ _
          · refine st_ap (fun y_893 => ?_)
            refine st_if ?_ ?_
            · exact ih _ _ _ _
            · exact ih _ _ _ _
        · refine st_bV g_X4_expectSemicolon_s (fun I_842 _ _ _ _ => ?_)
          exact st_rt rfl
theorem g_X4_readKeys_s {I : Nat → Int32} {J : Nat → Int64} {ri : Nat → Nat → Int32} {rj : Nat → Nat → Int64} {rq : Nat → Nat → Option Nat}  : STG id I (g_X4_readKeys  I J ri rj rq) := by
  rw [g_X4_readKeys_e]
  exact g_X4_readKeys_L4_s  _ _ _ _ _

theorem g_X4_readClause_s {I : Nat → Int32} {J : Nat → Int64} {ri : Nat → Nat → Int32} {rj : Nat → Nat → Int64} {rq : Nat → Nat → Option Nat}  : STG id I (g_X4_readClause  I J ri rj rq) := by
  rw [g_X4_readClause_e]
  refine st_ap (fun y_1 => ?_)
  refine st_if ?_ ?_
  · refine st_if ?_ ?_
    · refine st_ap (fun y_17 => ?_)
      refine st_if ?_ ?_
      · refine st_ap (fun r_26 => ?_)
        refine st_ap (fun x_27 => ?_)
        refine st_I (by decide) (by decide) (fun I_29 => ?_)
        refine st_bV g_X4_readEither_s (fun I_43 _ ri_44 _ _ => ?_)
        refine st_ap (fun y_56 => ?_)
        refine st_ap (fun y_58 => ?_)
        refine st_ap (fun r_59 => ?_)
        exact st_rt rfl
      · refine st_bV (g_X4_refuse_s (by decide)) (fun I_64 _ _ _ _ => ?_)
        exact st_rt rfl
    · refine st_b0 (fun x_79 _ _ _ _ _ => ?_)
      refine st_if ?_ ?_
      · refine st_ap (fun y_95 => ?_)
        refine st_if ?_ ?_
        · refine st_ap (fun r_104 => ?_)
          refine st_ap (fun x_105 => ?_)
          refine st_I (by decide) (by decide) (fun I_107 => ?_)
          refine st_if ?_ ?_
          · refine st_ap (fun x_125 => ?_)
            refine st_bV g_X4_readNumber_s (fun I_134 _ ri_135 _ _ => ?_)
            refine st_ap (fun y_148 => ?_)
            refine st_ap (fun y_150 => ?_)
            refine st_ap (fun r_151 => ?_)
            exact st_rt rfl
          · refine st_bV g_X4_readKeys_s (fun I_156 _ ri_157 _ _ => ?_)
            refine st_ap (fun y_170 => ?_)
            refine st_ap (fun y_172 => ?_)
            refine st_ap (fun r_173 => ?_)
            exact st_rt rfl
        · refine st_bV (g_X4_refuse_s (by decide)) (fun I_179 _ _ _ _ => ?_)
          exact st_rt rfl
      · refine st_bV (g_X4_refuse_s (by decide)) (fun I_196 _ _ _ _ => ?_)
        exact st_rt rfl
  · refine st_bV (g_X4_refuse_s (by decide)) (fun I_213 _ _ _ _ => ?_)
    exact st_rt rfl
