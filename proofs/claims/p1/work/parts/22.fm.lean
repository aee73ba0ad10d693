/-! ===== the reference's numbers on a fresh object, its clock apart ===== -/
def fm_b (j : Nat) : Int32 := if j = 12 then (-1) else if j = 13 then 29 else if j = 14 then 1 else if j = 15 then 10 else if j = 16 then 3 else if j = 17 then 5 else 0
def fm (f : Nat → Int32) (k : Nat) : Prop := f 0 = nI k ∧ ∀ j, j < 20 → j ≠ 0 → j ≠ 18 → f j = fm_b j
theorem fm_at {f : Nat → Int32} {k : Nat} (h : fm f k) (j : Nat) {v : Int32} (h1 : (j < 20 ∧ j ≠ 0 ∧ j ≠ 18) ∧ fm_b j = v) : f j = v := (h.2 j h1.1.1 h1.1.2.1 h1.1.2.2).trans h1.2
theorem fm_hi {r r1 : Nat → Nat → Int32} {a k : Nat} {i x : Int32} (h : fm (r a) k) (e : r1 = va_up r a (upd (r a) i.toNatClampNeg x)) (hi : i.toNatClampNeg = 18 ∨ 20 ≤ i.toNatClampNeg) : fm (r1 a) k := by
  subst e
  rw [va_up_self]
  refine ⟨?_, fun j h1 h2 h3 => ?_⟩
  · unfold upd
    rw [if_neg (by omega)]
    exact h.1
  · unfold upd
    rw [if_neg (by omega)]
    exact h.2 j h1 h2 h3
theorem fm_b8 {r r1 : Nat → Nat → Int32} {a k : Nat} {i x : Int32} (h : fm (r a) k) (e : r1 = va_up r a (upd (r a) i.toNatClampNeg x)) (hi : 0 < i.toNatClampNeg) (hx : x = fm_b i.toNatClampNeg) : fm (r1 a) k := by
  subst e
  rw [va_up_self]
  refine ⟨?_, fun j h1 h2 h3 => ?_⟩
  · unfold upd
    rw [if_neg (by omega)]
    exact h.1
  · unfold upd
    split
    · next q => rw [q]; exact hx
    · exact h.2 j h1 h2 h3
theorem fm_0 {r r1 : Nat → Nat → Int32} {a k k1 : Nat} {x : Int32} (h : fm (r a) k) (e : r1 = va_up r a (upd (r a) (0 : Int32).toNatClampNeg x)) (hx : x = nI k1) : fm (r1 a) k1 := by
  subst e
  rw [va_up_self]
  refine ⟨?_, fun j h1 h2 h3 => ?_⟩
  · unfold upd
    rw [if_pos (show (0 : Nat) = (0 : Int32).toNatClampNeg from rfl)]
    exact hx
  · unfold upd
    rw [if_neg (show ¬ j = (0 : Int32).toNatClampNeg from h2)]
    exact h.2 j h1 h2 h3
theorem fm_ne {r r1 : Nat → Nat → Int32} {a b k : Nat} {g : Nat → Int32} (h : fm (r a) k) (e : r1 = va_up r b g) (hn : a ≠ b) : fm (r1 a) k := by
  subst e
  rw [va_up_ne _ _ hn]
  exact h
theorem fm_eq {r r1 : Nat → Nat → Int32} {a k : Nat} (h : fm (r a) k) (e : r1 a = r a) : fm (r1 a) k := by rw [e]; exact h
theorem fm_cp {r r1 : Nat → Nat → Int32} {a b k : Nat} (h : fm (r b) k) (e : ∀ j, j < 12720 → r1 a j = r b j) : fm (r1 a) k := ⟨(e 0 (by decide)).trans h.1, fun j h1 h2 h3 => (e j (by omega)).trans (h.2 j h1 h2 h3)⟩
theorem rd_eq {r r1 : Nat → Nat → Int32} {a : Nat} {i x : Int32} (e : r1 = va_up r a (upd (r a) i.toNatClampNeg x)) : r1 a i.toNatClampNeg = x := by
  subst e
  rw [va_up_self]
  unfold upd
  rw [if_pos rfl]
theorem rd_ne {r r1 : Nat → Nat → Int32} {a : Nat} {i i2 x v : Int32} (e : r1 = va_up r a (upd (r a) i.toNatClampNeg x)) (hn : i2.toNatClampNeg ≠ i.toNatClampNeg) (h : r a i2.toNatClampNeg = v) : r1 a i2.toNatClampNeg = v := by
  subst e
  rw [va_up_self]
  unfold upd
  rw [if_neg hn]
  exact h
theorem pq_c1 {r0 r r1 : Nat → Nat → Int32} {a b i : Nat} (hab : b ≠ a) (h : (∀ j, j < i → r a j = r0 b j) ∧ ∀ c, c ≠ a → r c = r0 c) (hi : i < 2 ^ 31) (e : r1 = va_up r a (upd (r a) (nI i).toNatClampNeg (r b (nI i).toNatClampNeg))) : (∀ j, j < i + 1 → r1 a j = r0 b j) ∧ ∀ c, c ≠ a → r1 c = r0 c := by
  subst e
  rw [nI_clamp hi]
  refine ⟨fun j hj => ?_, fun c hc => ?_⟩
  · rw [va_up_self]
    unfold upd
    split
    · next q => rw [q, h.2 b hab]
    · exact h.1 j (by omega)
  · rw [va_up_ne _ _ hc]
    exact h.2 c hc
