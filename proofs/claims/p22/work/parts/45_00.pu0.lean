/-! ===== levels: the last that was told, the worst; both ways to look for them answer the same ===== -/
def lst (r m t : Nat → Int32) (R M K : Int32) : Nat → Option Nat
  | 0 => none
  | n + 1 => if r n = R ∧ m n = M ∧ t n ≤ K then some n else lst r m t R M K n
def olk (v : Nat → Int32) : Option Nat → Int32
  | none => -6000
  | some k => v k
def kwo (r v t : Nat → Int32) (R K : Int32) : Nat → Int32
  | 0 => -6000
  | n + 1 => if r n = R ∧ t n ≤ K then (if kwo r v t R K n < v n then v n else kwo r v t R K n) else kwo r v t R K n
def wst (r f w t : Nat → Int32) (R K : Int32) : Nat → Int32 × Bool
  | 0 => (0, false)
  | n + 1 => if r n = R ∧ f n ≠ 0 ∧ t n ≤ K ∧ ((wst r f w t R K n).2 = false ∨ (wst r f w t R K n).1 < w n) then (w n, true) else wst r f w t R K n
def mnn (a b : Int32) : Int32 := if -5000 < a.toInt then (if -5000 < b.toInt then (a + b) / 2 else a) else b
def fin4 (o a b w : Int32) : Int32 := if -5000 < o.toInt then o else if o.toInt = -5000 ∧ (-5000 < a.toInt ∨ -5000 < b.toInt) then mnn a b else if -5000 < w.toInt then w else 0
/-- the class's answer, from its four rows -/
def kfin (r m v t : Nat → Int32) (R M K : Int32) (n : Nat) : Int32 := fin4 (olk v (lst r m t R M K n)) (olk v (lst r m t R (M - 1) K n)) (olk v (lst r m t R (M + 1) K n)) (kwo r v t R K n)
/-- a number that was told there -/
def nmb (f w : Nat → Int32) : Option Nat → Option Int32
  | none => none
  | some k => if f k = 1 then some (w k) else none
def rfin (r m f w t : Nat → Int32) (R M K : Int32) (n : Nat) : Int32 := match lst r m t R M K n with
  | none => (wst r f w t R K n).1
  | some k => if f k = 1 then w k else match nmb f w (lst r m t R (M - 1) K n), nmb f w (lst r m t R (M + 1) K n) with
    | some a, some b => (a + b) / 2
    | some a, none => a
    | none, some b => b
    | none, none => (wst r f w t R K n).1
theorem lst_e (r m t : Nat → Int32) (R M K : Int32) (n : Nat) : lst r m t R M K (n + 1) = if r n = R ∧ m n = M ∧ t n ≤ K then some n else lst r m t R M K n := rfl
theorem kwo_e (r v t : Nat → Int32) (R K : Int32) (n : Nat) : kwo r v t R K (n + 1) = if r n = R ∧ t n ≤ K then (if kwo r v t R K n < v n then v n else kwo r v t R K n) else kwo r v t R K n := rfl
theorem wst_e (r f w t : Nat → Int32) (R K : Int32) (n : Nat) : wst r f w t R K (n + 1) = if r n = R ∧ f n ≠ 0 ∧ t n ≤ K ∧ ((wst r f w t R K n).2 = false ∨ (wst r f w t R K n).1 < w n) then (w n, true) else wst r f w t R K n := rfl
section LEV
variable {r m v t f w r2 m2 t2 : Nat → Int32} {R M K : Int32} {n n2 : Nat}
/-- the rows of both sides, up to n -/
def LVR (r m v t r2 m2 f w t2 : Nat → Int32) (n : Nat) : Prop := ∀ k, k < n → r k = r2 k ∧ m k = m2 k ∧ t k = t2 k ∧ (((f k).toInt = 0 ∧ (v k).toInt = -5000) ∨ ((f k).toInt = 1 ∧ v k = w k ∧ -1000 ≤ (w k).toInt ∧ (w k).toInt ≤ 5000))
theorem LVR_le (h : LVR r m v t r2 m2 f w t2 n) (k : n2 ≤ n) : LVR r m v t r2 m2 f w t2 n2 := fun j hj => h j (Nat.lt_of_lt_of_le hj k)
theorem lst_lt : ∀ (n : Nat) {k : Nat}, lst r m t R M K n = some k → k < n
  | 0, k, h => by cases h
  | n + 1, k, h => by
    rw [lst_e] at h
    split at h
    · cases h; exact Nat.lt_succ_self _
    · exact Nat.lt_succ_of_lt (lst_lt n h)
theorem lst_eq : ∀ (n : Nat), LVR r m v t r2 m2 f w t2 n → lst r m t R M K n = lst r2 m2 t2 R M K n
  | 0, _ => rfl
  | n + 1, h => by
    obtain ⟨h1, h2, h3, -⟩ := h n (Nat.lt_succ_self n)
    rw [lst_e, lst_e, h1, h2, h3, lst_eq n (LVR_le h (Nat.le_succ n))]
theorem wst_eq : ∀ (n : Nat), LVR r m v t r2 m2 f w t2 n → ((wst r2 f w t2 R K n).2 = true ∧ kwo r v t R K n = (wst r2 f w t2 R K n).1 ∧ -1000 ≤ (kwo r v t R K n).toInt) ∨ ((wst r2 f w t2 R K n).2 = false ∧ (wst r2 f w t2 R K n).1 = 0 ∧ (kwo r v t R K n).toInt ≤ -5000)
  | 0, _ => Or.inr ⟨rfl, rfl, by show (-6000 : Int32).toInt ≤ -5000; decide⟩
  | n + 1, h => by
    obtain ⟨h1, h2, h3, h4⟩ := h n (Nat.lt_succ_self n)
    have ih := wst_eq n (LVR_le h (Nat.le_succ n))
    rw [wst_e, kwo_e]
    rw [h1, h3]
    generalize hk : kwo r v t R K n = kk at ih ⊢
    generalize hw : wst r2 f w t2 R K n = ww at ih ⊢
    obtain ⟨w1, w2⟩ := ww
    by_cases c1 : r2 n = R ∧ t2 n ≤ K
    · rw [if_pos c1]
      rcases h4 with ⟨f0, v0⟩ | ⟨f1, v1, v2, v3⟩
      · have fz : f n = 0 := Int32.toInt_inj.mp (by rw [f0]; rfl)
        rw [if_neg (fun q => q.2.1 fz)]
        rcases ih with ⟨i1, i2, i3⟩ | ⟨i1, i2, i3⟩
        · rw [if_neg (fun q => by rw [Int32.lt_iff_toInt_lt] at q; omega)]
          exact Or.inl ⟨i1, i2, i3⟩
        · refine Or.inr ⟨i1, i2, ?_⟩
          split
          · omega
          · exact i3
      · have fz : f n ≠ 0 := fun q => by rw [q] at f1; exact absurd f1 (by decide)
        rcases ih with ⟨i1, i2, i3⟩ | ⟨i1, i2, i3⟩
        · by_cases c2 : w1 < w n
          · rw [if_pos ⟨c1.1, fz, c1.2, Or.inr c2⟩, v1, i2, if_pos c2]
            exact Or.inl ⟨rfl, rfl, v2⟩
          · rw [if_neg (fun q => by rcases q.2.2.2 with y | y; exact absurd (i1.symm.trans y) (by decide); exact c2 y), v1, i2, if_neg c2]
            exact Or.inl ⟨i1, rfl, by rw [← i2]; exact i3⟩
        · rw [if_pos ⟨c1.1, fz, c1.2, Or.inl i1⟩, v1, if_pos (by rw [Int32.lt_iff_toInt_lt]; omega)]
          exact Or.inl ⟨rfl, rfl, v2⟩
    · rw [if_neg c1, if_neg (fun q => c1 ⟨q.1, q.2.2.1⟩)]
      exact ih
theorem olk_nmb (h : LVR r m v t r2 m2 f w t2 n) (o : Option Nat) (ho : ∀ k, o = some k → k < n) : (-5000 < (olk v o).toInt ∧ nmb f w o = some (olk v o)) ∨ ((olk v o).toInt ≤ -5000 ∧ nmb f w o = none) := by
  cases o with
  | none => exact Or.inr ⟨by show (-6000 : Int32).toInt ≤ -5000; decide, rfl⟩
  | some k =>
    obtain ⟨-, -, -, h4⟩ := h k (ho k rfl)
    show (-5000 < (v k).toInt ∧ (if f k = 1 then some (w k) else none) = some (v k)) ∨ ((v k).toInt ≤ -5000 ∧ (if f k = 1 then some (w k) else none) = none)
    rcases h4 with ⟨f0, v0⟩ | ⟨f1, v1, v2, v3⟩
    · rw [if_neg (fun q => by rw [q] at f0; exact absurd f0 (by decide))]
      exact Or.inr ⟨by omega, rfl⟩
    · rw [if_pos (Int32.toInt_inj.mp (by rw [f1]; rfl)), v1]
      exact Or.inl ⟨by omega, rfl⟩
/-- both answer the same -/
theorem fin_eq (h : LVR r m v t r2 m2 f w t2 n) : kfin r m v t R M K n = rfin r2 m2 f w t2 R M K n := by
  unfold kfin rfin
  rw [lst_eq n h, lst_eq n h, lst_eq n h]
  have hw := wst_eq (R := R) (K := K) n h
  have ha := olk_nmb h (lst r2 m2 t2 R (M - 1) K n) (fun k q => lst_lt n q)
  have hb := olk_nmb h (lst r2 m2 t2 R (M + 1) K n) (fun k q => lst_lt n q)
  have ho := fun k (q : lst r2 m2 t2 R M K n = some k) => h k (lst_lt n q)
  generalize olk v (lst r2 m2 t2 R (M - 1) K n) = xa at ha ⊢
  generalize olk v (lst r2 m2 t2 R (M + 1) K n) = xb at hb ⊢
  generalize nmb f w (lst r2 m2 t2 R (M - 1) K n) = na at ha ⊢
  generalize nmb f w (lst r2 m2 t2 R (M + 1) K n) = nb at hb ⊢
  generalize lst r2 m2 t2 R M K n = oo at ho ⊢
  generalize kwo r v t R K n = kk at hw ⊢
  generalize wst r2 f w t2 R K n = ww at hw ⊢
  have hwr : (if -5000 < kk.toInt then kk else (0 : Int32)) = ww.1 := by
    rcases hw with ⟨i1, i2, i3⟩ | ⟨i1, i2, i3⟩
    · rw [if_pos (by omega), i2]
    · rw [if_neg (by omega), i2]
  cases oo with
  | none =>
    have z : (olk v none).toInt = -6000 := rfl
    show fin4 (olk v none) xa xb kk = ww.1
    unfold fin4
    rw [if_neg (by omega), if_neg (by omega)]
    exact hwr
  | some k =>
    obtain ⟨-, -, -, h4⟩ := ho k rfl
    show fin4 (v k) xa xb kk = if f k = 1 then w k else _
    unfold fin4
    rcases h4 with ⟨f0, v0⟩ | ⟨f1, v1, v2, v3⟩
    · rw [if_neg (by omega), if_neg (c := f k = 1) (fun q => by rw [q] at f0; exact absurd f0 (by decide))]
      rcases ha with ⟨a1, a2⟩ | ⟨a1, a2⟩ <;> rcases hb with ⟨b1, b2⟩ | ⟨b1, b2⟩ <;> rw [a2, b2]
      · change _ = (xa + xb) / 2
        rw [if_pos ⟨v0, Or.inl a1⟩]; unfold mnn; rw [if_pos a1, if_pos b1]
      · change _ = xa
        rw [if_pos ⟨v0, Or.inl a1⟩]; unfold mnn; rw [if_pos a1, if_neg (by omega)]
      · change _ = xb
        rw [if_pos ⟨v0, Or.inr b1⟩]; unfold mnn; rw [if_neg (by omega)]
      · change _ = ww.1
        rw [if_neg (by omega)]; exact hwr
    · rw [if_pos (by rw [v1]; omega), if_pos (Int32.toInt_inj.mp (by rw [f1]; rfl))]
      exact v1
end LEV
/-! the reference's rows of levels, out of its one row -/
def A5 (f : Nat → Int32) (o k : Nat) : Int32 := f (1220 + o + 5 * k)
section LEV2
variable {r m v t f w : Nat → Int32} {R M K : Int32} {n k : Nat}
theorem rf_none (h : lst r m t R M K n = none) : rfin r m f w t R M K n = (wst r f w t R K n).1 := by
  unfold rfin
  simp only [h]
theorem rf_own (h : lst r m t R M K n = some k) (hf : (f k).toInt = 1) : rfin r m f w t R M K n = w k := by
  unfold rfin
  rw [h]
  exact if_pos (Int32.toInt_inj.mp (by rw [hf]; rfl))
theorem rf_ne (hf : (f k).toInt ≠ 1) : f k ≠ 1 := fun q => hf (by rw [q]; rfl)
theorem nmb_0 {o : Option Nat} (h : o = none) : nmb f w o = none := by rw [h]; rfl
theorem nmb_y {o : Option Nat} (h : o = some k) (hf : (f k).toInt = 1) : nmb f w o = some (w k) := by
  rw [h]
  exact if_pos (Int32.toInt_inj.mp (by rw [hf]; rfl))
theorem nmb_n {o : Option Nat} (h : o = some k) (hf : (f k).toInt ≠ 1) : nmb f w o = none := by
  rw [h]
  exact if_neg (rf_ne hf)
theorem rf_2 {a b : Int32} (h : lst r m t R M K n = some k) (hf : (f k).toInt ≠ 1) (h1 : nmb f w (lst r m t R (M - 1) K n) = some a) (h2 : nmb f w (lst r m t R (M + 1) K n) = some b) : rfin r m f w t R M K n = (a + b) / 2 := by
  unfold rfin
  rw [h, h1, h2]
  exact if_neg (rf_ne hf)
theorem rf_a {a : Int32} (h : lst r m t R M K n = some k) (hf : (f k).toInt ≠ 1) (h1 : nmb f w (lst r m t R (M - 1) K n) = some a) (h2 : nmb f w (lst r m t R (M + 1) K n) = none) : rfin r m f w t R M K n = a := by
  unfold rfin
  rw [h, h1, h2]
  exact if_neg (rf_ne hf)
theorem rf_b {b : Int32} (h : lst r m t R M K n = some k) (hf : (f k).toInt ≠ 1) (h1 : nmb f w (lst r m t R (M - 1) K n) = none) (h2 : nmb f w (lst r m t R (M + 1) K n) = some b) : rfin r m f w t R M K n = b := by
  unfold rfin
  rw [h, h1, h2]
  exact if_neg (rf_ne hf)
theorem rf_0 (h : lst r m t R M K n = some k) (hf : (f k).toInt ≠ 1) (h1 : nmb f w (lst r m t R (M - 1) K n) = none) (h2 : nmb f w (lst r m t R (M + 1) K n) = none) : rfin r m f w t R M K n = (wst r f w t R K n).1 := by
  unfold rfin
  rw [h, h1, h2]
  exact if_neg (rf_ne hf)
end LEV2
