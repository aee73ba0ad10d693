/-! ===== pure: a CLAUSE more (behind pc) ===== -/
section PD
/-- both sides hold M's CLAUSES and this one -/
def DCL (W : Nat) (c : Int32) (M : CLs) (f0 : Nat → Int32) : ((Nat → Int32) → (Nat → Nat → Int32) → (Nat → Int32) → (Nat → Nat → Int32) → Nat → Prop) := fun If rf I1 r1 p => ∃ (E : List Int32) (w : Nat), CTX rf ((c, E) :: M) ∧ RTX W (r1 384) ((c, E) :: M) w ∧ (I1 398).toInt = (w : Int) ∧ (If 132).toInt = (tot ((c, E) :: M) : Int) ∧ w ≤ tot ((c, E) :: M) ∧ tot ((c, E) :: M) ≤ p ∧ ∀ j, j ≤ W → r1 384 j = f0 j
variable {W k w p0 p2 p3 i y : Nat} {c bb : Int32} {M : CLs} {r rf r1 : Nat → Nat → Int32} {f f0 g : Nat → Int32} {S0 F0 : Int32 × (Nat → Int32)} {If I1 I2 : Nat → Int32}
/-- the class's side, of any CLAUSE -/
theorem ctx_up {E : List Int32} (hM : M.length = k) (hC : CTX r M) (hS : S0.1.toInt = (tot M : Int)) (hS2 : S0.2 = r 259) (a1 : ES If rf = emL S0 E) (hl : tot M + E.length ≤ 300) (h257 : rf 257 = upd (r 257) k c) (h258 : rf 258 = r 258) : CTX (va_up rf 258 (upd (rf 258) (k + 1) (If 132))) ((c, E) :: M) ∧ (If 132).toInt = (tot ((c, E) :: M) : Int) := by
  obtain ⟨b1, b2, b3⟩ := emL_v E S0 (tot M) hS hl
  rw [← a1] at b1 b2 b3
  have e1 : (If 132).toInt = ((tot M + E.length : Nat) : Int) := b1
  have n257 : va_up rf 258 (upd (rf 258) (k + 1) (If 132)) 257 = upd (r 257) k c := by rw [va_up_ne _ _ (show (257 : Nat) ≠ 258 by decide)]; exact h257
  have n258 : va_up rf 258 (upd (rf 258) (k + 1) (If 132)) 258 = upd (r 258) (k + 1) (If 132) := by rw [va_up_self, h258]
  have n259 : va_up rf 258 (upd (rf 258) (k + 1) (If 132)) 259 = rf 259 := va_up_ne _ _ (by decide)
  refine ⟨⟨CTX_cg M hC (fun j hj => ?_) (fun j hj => ?_) (fun j hj => ?_), ?_, ?_, fun i y hy => ?_⟩, e1⟩
  · rw [n257]; exact upd_n _ _ (by omega)
  · rw [n258]; exact upd_n _ _ (by omega)
  · rw [n259, ← hS2]; exact b2 j hj
  · rw [n257, hM]; exact upd_s _ _ _
  · rw [n258, hM, upd_s]; exact e1
  · rw [n259]; exact b3 i y hy
theorem dcl_ei (h : CEI S0 F0 bb p0 If rf I1 r1 p2) (hi : i = k + 1) (hy : y = W + 1 + 12 * k + 3) (hf0 : ∀ j, j ≤ W → f j = f0 j) (hM : M.length = k) (hk : k ≤ 19) (hW : W ≤ 20000) (hb : bb.toInt = (W : Int)) (hC : CTX r M) (hR : RTX W f M w) (hw : w ≤ tot M) (hp0 : tot M ≤ p0) (hS : S0.1.toInt = (tot M : Int)) (hS2 : S0.2 = r 259) (hF : F0.1.toInt = (w : Int)) (hF2 : F0.2 = upd (upd f (W + 1 + 12 * k) (srC c)) (W + 1 + 12 * k + 2) F0.1) (h257 : rf 257 = upd (r 257) k c) (h258 : rf 258 = r 258) (hp2 : p2 ≤ 300) (hp3 : p2 ≤ p3) (c4 : c.toInt < 4) (hI2 : I2 398 = I1 398) : DCL W c M f0 If (va_up rf 258 (upd (rf 258) i (If 132))) I2 (va_up r1 384 (upd (r1 384) y (I1 398))) p3 := by
  subst hi hy
  obtain ⟨E, a1, a2, a3, a4, a5⟩ := h
  have ht : tot ((c, E) :: M) = tot M + E.length := rfl
  obtain ⟨x1, x2⟩ := ctx_up (c := c) hM hC hS hS2 a1 (by omega) h257 h258
  obtain ⟨d1, d2, d3⟩ := fmL_v hb hW (E.map en) F0 w hF (by rw [List.length_map]; omega)
  rw [← a2] at d1 d2 d3
  rw [List.length_map] at d1
  have e1 : (I1 398).toInt = ((w + E.length : Nat) : Int) := d1
  have row : ∀ j, j < W + 250 + 2 * w → j ≠ W + 1 + 12 * k → j ≠ W + 1 + 12 * k + 2 → j ≠ W + 1 + 12 * k + 3 → upd (r1 384) (W + 1 + 12 * k + 3) (I1 398) j = f j := fun j h1 h2 h3 h4 => by
    have z : r1 384 j = F0.2 j := d2 j h1
    rw [upd_n _ _ h4, z, hF2, upd_n _ _ h3, upd_n _ _ h2]
  refine ⟨E, w + E.length, x1, ?_, by rw [hI2]; exact e1, x2, by rw [ht]; omega, by rw [ht]; omega, fun j hj => by rw [va_up_self, row j (by omega) (by omega) (by omega) (by omega)]; exact hf0 j hj⟩
  rw [va_up_self]
  refine ⟨?_, Or.inl ⟨c4, a5, w, RTX_cg M w hR (by omega) (fun j h1 h2 => row j (by omega) (by omega) (by omega) (by omega)) (fun j h1 h2 => row j h2 (by omega) (by omega) (by omega)), rfl, ?_, ?_, fun i y hy => ?_⟩⟩
  · have z : r1 384 (W + 1 + 12 * M.length) = F0.2 (W + 1 + 12 * M.length) := d2 _ (by omega)
    rw [upd_n _ _ (by omega), z, hF2, upd_n _ _ (by omega), hM, upd_s]
  · have z : r1 384 (W + 1 + 12 * M.length + 2) = F0.2 (W + 1 + 12 * M.length + 2) := d2 _ (by omega)
    rw [upd_n _ _ (by omega), z, hF2, hM, upd_s]; exact hF
  · rw [hM, upd_s]; exact e1
  · have hi := get_lt hy
    have hy2 : (E.map en)[i]? = some (en y) := by
      rw [List.getElem?_map, show E[i]? = some y from hy]; rfl
    obtain ⟨z1, z2⟩ := d3 i (en y) hy2
    exact ⟨by rw [upd_n _ _ (by omega)]; exact z1, by rw [upd_n _ _ (by omega)]; exact z2⟩
theorem dcl_ke {a0 : Int32} {w0 : Int32} (h : CKE a0 S0 g w0 bb p0 If rf I1 r1 p2) (hi : i = k + 1) (hg : g = upd (upd f (W + 1 + 12 * k) (srC c)) (W + 1 + 12 * k + 4) 0) (hf0 : ∀ j, j ≤ W → f j = f0 j) (hM : M.length = k) (hk : k ≤ 19) (hW : W ≤ 20000) (ha : a0.toInt = ((W + 1 + 12 * k : Nat) : Int)) (hC : CTX r M) (hR : RTX W f M w) (hw : w ≤ tot M) (hp0 : tot M ≤ p0) (hS : S0.1.toInt = (tot M : Int)) (hS2 : S0.2 = r 259) (hw0 : w0.toInt = (w : Int)) (h257 : rf 257 = upd (r 257) k c) (h258 : rf 258 = r 258) (hp2 : p2 ≤ 300) (hp3 : p2 ≤ p3) (c4 : c.toInt = 4 ∨ c.toInt = 5) (hI2 : I2 398 = I1 398) : DCL W c M f0 If (va_up rf 258 (upd (rf 258) i (If 132))) I2 r1 p3 := by
  subst hi hg
  obtain ⟨E, a1, a2, a3, a4, a5, hE, aK⟩ := h
  have ht : tot ((c, E) :: M) = tot M + E.length := rfl
  have k0 : (0 : Int32).toInt = ((0 : Nat) : Int) := by decide
  obtain ⟨x1, x2⟩ := ctx_up (c := c) hM hC hS hS2 a1 (by omega) h257 h258
  obtain ⟨d1, d2, d3⟩ := kmL_v ha (by omega) E (upd (upd f (W + 1 + 12 * k) (srC c)) (W + 1 + 12 * k + 4) 0) 0 (by rw [upd_s]; exact k0) (by omega)
  rw [← a2] at d1 d2 d3
  have row : ∀ j, (j < W + 1 + 12 * k ∨ W + 1 + 12 * k + 9 ≤ j) → r1 384 j = f j := fun j h1 => by
    rw [d2 j (by omega), upd_n _ _ (by omega), upd_n _ _ (by omega)]
  refine ⟨E, w, x1, ?_, by rw [hI2, a3]; exact hw0, x2, by rw [ht]; omega, by rw [ht]; omega, fun j hj => (row j (by omega)).trans (hf0 j hj)⟩
  refine ⟨?_, Or.inr (Or.inl ⟨c4, aK, RTX_cg M w hR (by omega) (fun j h1 h2 => row j (by omega)) (fun j h1 h2 => row j (by omega)), hE, ?_, fun i y hy => ?_⟩)⟩
  · rw [hM, d2 _ (by omega), upd_n _ _ (by omega), upd_s]
  · rw [hM, d1]
    show ((0 + E.length : Nat) : Int) = (E.length : Int)
    omega
  · have z := d3 i y hy
    rw [hM]
    exact z
theorem dcl_nu {w0 : Int32} {x : Nat} (h : CNU S0 g x w0 bb p0 If rf I1 r1 p2) (hi : i = k + 1) (hg : g = upd f (W + 1 + 12 * k) (srC c)) (hx : x = W + 1 + 12 * k + 1) (hf0 : ∀ j, j ≤ W → f j = f0 j) (hM : M.length = k) (hk : k ≤ 19) (hC : CTX r M) (hR : RTX W f M w) (hw : w ≤ tot M) (hp0 : tot M ≤ p0) (hS : S0.1.toInt = (tot M : Int)) (hS2 : S0.2 = r 259) (hw0 : w0.toInt = (w : Int)) (h257 : rf 257 = upd (r 257) k c) (h258 : rf 258 = r 258) (hp2 : p2 ≤ 300) (hp3 : p2 ≤ p3) (c6 : 6 ≤ c.toInt) (hI2 : I2 398 = I1 398) : DCL W c M f0 If (va_up rf 258 (upd (rf 258) i (If 132))) I2 r1 p3 := by
  subst hi hg hx
  obtain ⟨y, a1, a2, a3, a4, a5⟩ := h
  have ht : tot ((c, [y]) :: M) = tot M + 1 := rfl
  obtain ⟨x1, x2⟩ := ctx_up (c := c) (E := [y]) hM hC hS hS2 a1 (by show tot M + 1 ≤ 300; omega) h257 h258
  have row : ∀ j, j ≠ W + 1 + 12 * k → j ≠ W + 1 + 12 * k + 1 → r1 384 j = f j := fun j h1 h2 => by rw [a2, upd_n _ _ h2, upd_n _ _ h1]
  refine ⟨[y], w, x1, ?_, by rw [hI2, a3]; exact hw0, x2, by rw [ht]; omega, by rw [ht]; omega, fun j hj => (row j (by omega) (by omega)).trans (hf0 j hj)⟩
  refine ⟨?_, Or.inr (Or.inr ⟨c6, RTX_cg M w hR (by omega) (fun j h1 h2 => row j (by omega) (by omega)) (fun j h1 h2 => row j (by omega) (by omega)), y, rfl, ?_⟩)⟩
  · rw [hM, a2, upd_n _ _ (by omega), upd_s]
  · rw [hM, a2, upd_s]
/-! behind a fault -/
theorem low_ei (h : LOWF F0 bb I1 r1) (hy : y = W + 1 + 12 * k + 3) (hf0 : ∀ j, j ≤ W → f j = f0 j) (hW : W ≤ 20000) (hb : bb.toInt = (W : Int)) (hw : w ≤ 300) (hF : F0.1.toInt = (w : Int)) (hF2 : F0.2 = upd (upd f (W + 1 + 12 * k) (srC c)) (W + 1 + 12 * k + 2) F0.1) : ∀ j, j ≤ W → va_up r1 384 (upd (r1 384) y (I1 398)) 384 j = f0 j := by
  obtain ⟨L, e, hl⟩ := h
  obtain ⟨d1, d2, d3⟩ := fmL_v hb hW L F0 w hF (by omega)
  rw [← e] at d2
  intro j hj
  have z : r1 384 j = F0.2 j := d2 j (by omega)
  rw [va_up_self, upd_n _ _ (by omega), z, hF2, upd_n _ _ (by omega), upd_n _ _ (by omega)]
  exact hf0 j hj
theorem low_ke {a0 : Int32} (h : ZKE a0 g I1 r1) (hg : g = upd (upd f (W + 1 + 12 * k) (srC c)) (W + 1 + 12 * k + 4) 0) (hf0 : ∀ j, j ≤ W → f j = f0 j) (hk : k ≤ 19) (hW : W ≤ 20000) (ha : a0.toInt = ((W + 1 + 12 * k : Nat) : Int)) : ∀ j, j ≤ W → r1 384 j = f0 j := by
  subst hg
  obtain ⟨X, e, hl⟩ := h
  have k0 : (0 : Int32).toInt = ((0 : Nat) : Int) := by decide
  obtain ⟨d1, d2, d3⟩ := kmL_v ha (by omega) X (upd (upd f (W + 1 + 12 * k) (srC c)) (W + 1 + 12 * k + 4) 0) 0 (by rw [upd_s]; exact k0) (by omega)
  intro j hj
  rw [e, d2 j (by omega), upd_n _ _ (by omega), upd_n _ _ (by omega)]
  exact hf0 j hj
theorem low_nu {x : Nat} (h : ZNU g x I1 r1) (hg : g = upd f (W + 1 + 12 * k) (srC c)) (hx : x = W + 1 + 12 * k + 1) (hf0 : ∀ j, j ≤ W → f j = f0 j) : ∀ j, j ≤ W → r1 384 j = f0 j := by
  have h' : ∀ j, j ≠ x → r1 384 j = g j := h
  intro j hj
  rw [h' j (by omega), hg, upd_n _ _ (by omega)]
  exact hf0 j hj
end PD
