/-! ===== pure: what CLAUSES hold, on both sides (behind pr11, ahead of pr12) ===== -/
section PC
/-- sorts and codes of CLAUSES, the latest first -/
abbrev CLs : Type := List (Int32 × List Int32)
def tot : CLs → Nat
  | [] => 0
  | x :: M => tot M + x.2.length
/-- the class's TEXT -/
def CTX (r : Nat → Nat → Int32) : CLs → Prop
  | [] => (r 258 0).toInt = 0
  | x :: M => CTX r M ∧ r 257 M.length = x.1 ∧ (r 258 (M.length + 1)).toInt = ((tot M + x.2.length : Nat) : Int) ∧ ∀ i y, x.2[i]? = some y → r 259 (tot M + i) = y
/-- the reference's, of W on -/
def RTX (W : Nat) (f : Nat → Int32) : CLs → Nat → Prop
  | [], w => w = 0
  | x :: M, w => f (W + 1 + 12 * M.length) = srC x.1 ∧ ((x.1.toInt < 4 ∧ eTr x.2 [] = some [true] ∧ ∃ w0 : Nat, RTX W f M w0 ∧ w = w0 + x.2.length ∧ (f (W + 1 + 12 * M.length + 2)).toInt = (w0 : Int) ∧ (f (W + 1 + 12 * M.length + 3)).toInt = (w : Int) ∧ ∀ i y, x.2[i]? = some y → f (W + 250 + 2 * (w0 + i)) = (en y).1 ∧ f (W + 250 + 2 * (w0 + i) + 1) = (en y).2) ∨ ((x.1.toInt = 4 ∨ x.1.toInt = 5) ∧ (∀ y, y ∈ x.2 → KYN y) ∧ RTX W f M w ∧ x.2.length ≤ 4 ∧ (f (W + 1 + 12 * M.length + 4)).toInt = (x.2.length : Int) ∧ ∀ i y, x.2[i]? = some y → f (W + 1 + 12 * M.length + 5 + i) = kr y) ∨ (6 ≤ x.1.toInt ∧ RTX W f M w ∧ ∃ y, x.2 = [y] ∧ f (W + 1 + 12 * M.length + 1) = y))
theorem upN2 {x : Int32} {p : Nat} (h : x.toInt = (p : Int)) (hp : p ≤ 100000) : (x + 1).toInt = ((p + 1 : Nat) : Int) := by
  have := i_add h (show (1 : Int32).toInt = 1 by decide) (by omega) (by omega)
  omega
theorem get_lt {α : Type} {E : List α} {i : Nat} {y : α} (h : E[i]? = some y) : i < E.length := (List.getElem?_eq_some_iff.mp h).1
theorem CTX_cg {r r' : Nat → Nat → Int32} : ∀ M : CLs, CTX r M → (∀ j, j < M.length → r' 257 j = r 257 j) → (∀ j, j ≤ M.length → r' 258 j = r 258 j) → (∀ j, j < tot M → r' 259 j = r 259 j) → CTX r' M
  | [], h, _, h2, _ => by
    show (r' 258 0).toInt = 0
    rw [h2 0 (Nat.le_refl _)]; exact h
  | x :: M, h, h1, h2, h3 => by
    obtain ⟨a, b, c, d⟩ := h
    have hl : (x :: M).length = M.length + 1 := rfl
    have ht : tot (x :: M) = tot M + x.2.length := rfl
    refine ⟨CTX_cg M a (fun j hj => h1 j (by omega)) (fun j hj => h2 j (by omega)) (fun j hj => h3 j (by omega)), ?_, ?_, fun i y hy => ?_⟩
    · rw [h1 _ (by omega)]; exact b
    · rw [h2 _ (by omega)]; exact c
    · have := get_lt hy
      rw [h3 _ (by omega)]; exact d i y hy
theorem RTX_cg {W : Nat} {f g : Nat → Int32} : ∀ (M : CLs) (w : Nat), RTX W f M w → M.length ≤ 20 → (∀ j, W + 1 ≤ j → j < W + 1 + 12 * M.length → g j = f j) → (∀ j, W + 250 ≤ j → j < W + 250 + 2 * w → g j = f j) → RTX W g M w
  | [], w, h, _, _, _ => h
  | x :: M, w, h, hk, h1, h2 => by
    obtain ⟨a, b⟩ := h
    have hl : (x :: M).length = M.length + 1 := rfl
    have q : ∀ d, d < 12 → g (W + 1 + 12 * M.length + d) = f (W + 1 + 12 * M.length + d) := fun d hd => h1 _ (by omega) (by omega)
    refine ⟨by rw [← Nat.add_zero (W + 1 + 12 * M.length), q 0 (by decide), Nat.add_zero]; exact a, ?_⟩
    rcases b with ⟨b0, bt, w0, b1, b2, b3, b4, b5⟩ | ⟨b0, bk, b1, b2, b3, b4⟩ | ⟨b0, b1, y, b2, b3⟩
    · refine Or.inl ⟨b0, bt, w0, RTX_cg M w0 b1 (by omega) (fun j h3 h4 => h1 j h3 (by omega)) (fun j h3 h4 => h2 j h3 (by omega)), b2, by rw [q 2 (by decide)]; exact b3, by rw [q 3 (by decide)]; exact b4, fun i y hy => ?_⟩
      have hi := get_lt hy
      obtain ⟨c1, c2⟩ := b5 i y hy
      exact ⟨by rw [h2 _ (by omega) (by omega)]; exact c1, by rw [h2 _ (by omega) (by omega)]; exact c2⟩
    · refine Or.inr (Or.inl ⟨b0, bk, RTX_cg M w b1 (by omega) (fun j h3 h4 => h1 j h3 (by omega)) h2, b2, by rw [q 4 (by decide)]; exact b3, fun i y hy => ?_⟩)
      have hi := get_lt hy
      rw [show W + 1 + 12 * M.length + 5 + i = W + 1 + 12 * M.length + (5 + i) by omega, q (5 + i) (by omega), ← show W + 1 + 12 * M.length + 5 + i = W + 1 + 12 * M.length + (5 + i) by omega]
      exact b4 i y hy
    · exact Or.inr (Or.inr ⟨b0, RTX_cg M w b1 (by omega) (fun j h3 h4 => h1 j h3 (by omega)) h2, y, b2, by rw [q 1 (by decide)]; exact b3⟩)
/-- what the class emits, where its bound isn't met -/
theorem emL_v : ∀ (E : List Int32) (S : Int32 × (Nat → Int32)) (q : Nat), S.1.toInt = (q : Int) → q + E.length ≤ 300 → (emL S E).1.toInt = ((q + E.length : Nat) : Int) ∧ (∀ j, j < q → (emL S E).2 j = S.2 j) ∧ ∀ i y, E[i]? = some y → (emL S E).2 (q + i) = y
  | [], S, q, h, _ => ⟨h, fun _ _ => rfl, fun i y hy => by simp at hy⟩
  | a :: E, S, q, h, hl => by
    have hl1 : (a :: E).length = E.length + 1 := rfl
    have k : (300 : Int32).toInt = 300 := by decide
    have e1 : em1 S a = (S.1 + 1, upd S.2 S.1.toNatClampNeg a) := if_neg (fun y => by have := Int32.le_iff_toInt_le.mp y; omega)
    have u : (S.1 + 1).toInt = ((q + 1 : Nat) : Int) := upN h (by omega)
    obtain ⟨i1, i2, i3⟩ := emL_v E (S.1 + 1, upd S.2 S.1.toNatClampNeg a) (q + 1) u (by omega)
    have e2 : emL S (a :: E) = emL (S.1 + 1, upd S.2 S.1.toNatClampNeg a) E := by rw [← e1]; rfl
    rw [e2]
    refine ⟨by rw [i1]; omega, fun j hj => ?_, fun i y hy => ?_⟩
    · rw [i2 j (by omega), at_n h]
      exact upd_n _ _ (by omega)
    · cases i with
      | zero =>
        have hy2 : a = y := by simpa using hy
        rw [Nat.add_zero, i2 q (by omega), at_n h]
        show upd S.2 q a q = y
        rw [upd_s, hy2]
      | succ i =>
        have hy2 : E[i]? = some y := by simpa using hy
        rw [show q + (i + 1) = q + 1 + i by omega]
        exact i3 i y hy2
/-- what the reference emits -/
theorem fmL_v {b : Int32} {W : Nat} (hb : b.toInt = (W : Int)) (hW : W ≤ 20000) : ∀ (Y : List (Int32 × Int32)) (F : Int32 × (Nat → Int32)) (w : Nat), F.1.toInt = (w : Int) → w + Y.length ≤ 1000 → (fmL b F Y).1.toInt = ((w + Y.length : Nat) : Int) ∧ (∀ j, j < W + 250 + 2 * w → (fmL b F Y).2 j = F.2 j) ∧ ∀ i y, Y[i]? = some y → (fmL b F Y).2 (W + 250 + 2 * (w + i)) = y.1 ∧ (fmL b F Y).2 (W + 250 + 2 * (w + i) + 1) = y.2
  | [], F, w, h, _ => ⟨h, fun _ _ => rfl, fun i y hy => by simp at hy⟩
  | a :: Y, F, w, h, hl => by
    have hl1 : (a :: Y).length = Y.length + 1 := rfl
    have k250 : (250 : Int32).toInt = 250 := by decide
    have x1 : (b + 250).toInt = ((W + 250 : Nat) : Int) := by
      have := i_add hb k250 (by omega) (by omega)
      omega
    have x2 : ((2 : Int32) * F.1).toInt = ((2 * w : Nat) : Int) := by
      have := i_mul (show (2 : Int32).toInt = 2 by decide) h (by omega) (by omega)
      omega
    have x3 : (b + 250 + 2 * F.1).toInt = ((W + 250 + 2 * w : Nat) : Int) := by
      have := i_add x1 x2 (by omega) (by omega)
      omega
    have x4 : (b + 250 + 2 * F.1 + 1).toInt = ((W + 250 + 2 * w + 1 : Nat) : Int) := upN2 x3 (by omega)
    have u : (F.1 + 1).toInt = ((w + 1 : Nat) : Int) := upN h (by omega)
    obtain ⟨i1, i2, i3⟩ := fmL_v hb hW Y (F.1 + 1, upd (upd F.2 (b + 250 + 2 * F.1).toNatClampNeg a.1) (b + 250 + 2 * F.1 + 1).toNatClampNeg a.2) (w + 1) u (by omega)
    have e2 : fmL b F (a :: Y) = fmL b (F.1 + 1, upd (upd F.2 (b + 250 + 2 * F.1).toNatClampNeg a.1) (b + 250 + 2 * F.1 + 1).toNatClampNeg a.2) Y := rfl
    rw [e2]
    rw [at_n x3, at_n x4] at i1 i2 i3 ⊢
    refine ⟨by rw [i1]; omega, fun j hj => ?_, fun i y hy => ?_⟩
    · rw [i2 j (by omega)]
      show upd (upd F.2 (W + 250 + 2 * w) a.1) (W + 250 + 2 * w + 1) a.2 j = F.2 j
      rw [upd_n _ _ (by omega), upd_n _ _ (by omega)]
    · cases i with
      | zero =>
        have hy2 : a = y := by simpa using hy
        rw [Nat.add_zero, i2 _ (by omega), i2 _ (by omega), ← hy2]
        refine ⟨?_, ?_⟩
        · show upd (upd F.2 (W + 250 + 2 * w) a.1) (W + 250 + 2 * w + 1) a.2 (W + 250 + 2 * w) = a.1
          rw [upd_n _ _ (by omega), upd_s]
        · show upd (upd F.2 (W + 250 + 2 * w) a.1) (W + 250 + 2 * w + 1) a.2 (W + 250 + 2 * w + 1) = a.2
          rw [upd_s]
      | succ i =>
        have hy2 : Y[i]? = some y := by simpa using hy
        rw [show w + (i + 1) = w + 1 + i by omega]
        exact i3 i y hy2
/-- what KEYS come to in the reference -/
theorem kmL_v {a0 : Int32} {A : Nat} (hA : a0.toInt = (A : Int)) (hA2 : A ≤ 100000) : ∀ (X : List Int32) (f : Nat → Int32) (k : Nat), (f (A + 4)).toInt = (k : Int) → k + X.length ≤ 4 → (kmL a0 f X (A + 4)).toInt = ((k + X.length : Nat) : Int) ∧ (∀ j, j < A + 4 ∨ (A + 4 < j ∧ j < A + 5 + k) ∨ A + 9 ≤ j → kmL a0 f X j = f j) ∧ ∀ i y, X[i]? = some y → kmL a0 f X (A + 5 + k + i) = kr y
  | [], f, k, h, _ => ⟨h, fun _ _ => rfl, fun i y hy => by simp at hy⟩
  | a :: X, f, k, h, hl => by
    have hl1 : (a :: X).length = X.length + 1 := rfl
    have e4 : (a0 + 4).toInt = ((A + 4 : Nat) : Int) := by
      have := i_add hA (show (4 : Int32).toInt = 4 by decide) (by omega) (by omega)
      omega
    have e5 : (a0 + 5).toInt = ((A + 5 : Nat) : Int) := by
      have := i_add hA (show (5 : Int32).toInt = 5 by decide) (by omega) (by omega)
      omega
    have e6 : (a0 + 5 + f (A + 4)).toInt = ((A + 5 + k : Nat) : Int) := by
      have := i_add e5 h (by omega) (by omega)
      omega
    have ek : km1 a0 f a = upd (upd f (A + 5 + k) (kr a)) (A + 4) (f (A + 4) + 1) := by
      unfold km1
      rw [at_n e4, at_n e6, upd_n f (kr a) (show A + 4 ≠ A + 5 + k by omega)]
    have h1 : (km1 a0 f a (A + 4)).toInt = ((k + 1 : Nat) : Int) := by rw [ek, upd_s]; exact upN h (by omega)
    obtain ⟨i1, i2, i3⟩ := kmL_v hA hA2 X (km1 a0 f a) (k + 1) h1 (by omega)
    have e2 : kmL a0 f (a :: X) = kmL a0 (km1 a0 f a) X := rfl
    rw [e2]
    refine ⟨by rw [i1]; omega, fun j hj => ?_, fun i y hy => ?_⟩
    · rw [i2 j (by omega), ek, upd_n _ _ (by omega), upd_n _ _ (by omega)]
    · cases i with
      | zero =>
        have hy2 : a = y := by simpa using hy
        rw [Nat.add_zero, i2 _ (by omega), ek, upd_n _ _ (by omega), upd_s, hy2]
      | succ i =>
        have hy2 : X[i]? = some y := by simpa using hy
        rw [show A + 5 + k + (i + 1) = A + 5 + (k + 1) + i by omega]
        exact i3 i y hy2
end PC
