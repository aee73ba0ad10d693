/-! ===== the reference's start: what is 0, what the tables hold ===== -/
theorem zl_lt {j : Nat} (h : zn j ∈ ztl) : j < 12720 := by
  by_cases hj : j < 12720
  · exact hj
  · exfalso
    have e : zn j = 999 := by
      unfold zn
      repeat (first | rw [if_neg (by omega)] | rw [if_pos (by omega)])
    rw [e] at h
    exact absurd h (by decide +kernel)
abbrev zrl : List Nat := [0, 1, 2, 3, 4, 5, 6, 7, 10, 100, 300, 301, 304, 305, 306, 308, 403, 500, 501, 502, 503, 504, 700, 701, 702]
theorem zrl_z {j : Nat} (h : zn j ∈ zrl) : zn j ∈ ztl := (by decide +kernel : ∀ z, z ∈ zrl → z ∈ ztl) _ h
theorem zrl_x {X : List Nat} {j : Nat} (h : zn j ∈ zrl) (hX : ∀ z, z ∈ zrl → 1000 + z ∉ X) : 1000 + zn j ∉ X := hX _ h
/-- the rules, and the table's first n months -/
def TBK (f : Nat → Int32) (n : Nat) : Prop := (f 13 = 29 ∧ f 14 = 1 ∧ f 15 = 10) ∧ ∀ j, j < n → f (20 + 5 * j + 1) = 500 ∧ f (20 + 5 * j + 2) = 25 ∧ f (20 + 5 * j + 3) = 5
section TBS
variable {r r1 r2 r3 r4 r5 r6 : Nat → Nat → Int32} {a k n : Nat} {x x1 x2 x3 x4 x5 x6 v v1 v2 v3 v4 v5 v6 : Int32}
theorem tu_at (e : r1 = va_up r a (upd (r a) x.toNatClampNeg v)) : r1 a x.toNatClampNeg = v := by
  rw [e, va_up_self]
  exact if_pos rfl
theorem tu_ne {i : Nat} (e : r1 = va_up r a (upd (r a) x.toNatClampNeg v)) (h : i ≠ x.toNatClampNeg) : r1 a i = r a i := by
  rw [e, va_up_self]
  exact if_neg h
theorem tbk_0 (e2 : r2 = va_up r1 a (upd (r1 a) (13 : Int32).toNatClampNeg 29)) (e3 : r3 = va_up r2 a (upd (r2 a) (14 : Int32).toNatClampNeg 1)) (e4 : r4 = va_up r3 a (upd (r3 a) (15 : Int32).toNatClampNeg 10)) (e5 : r5 = va_up r4 a (upd (r4 a) (16 : Int32).toNatClampNeg 3)) (e6 : r6 = va_up r5 a (upd (r5 a) (17 : Int32).toNatClampNeg 5)) : TBK (r6 a) (0 : Int32).toNatClampNeg := by
  have z : (0 : Int32).toNatClampNeg = 0 := by decide +kernel
  rw [z]
  refine ⟨⟨?_, ?_, ?_⟩, fun j hj => absurd hj (Nat.not_lt_zero j)⟩
  · rw [tu_ne e6 (by decide +kernel), tu_ne e5 (by decide +kernel), tu_ne e4 (by decide +kernel), tu_ne e3 (by decide +kernel)]
    exact tu_at e2
  · rw [tu_ne e6 (by decide +kernel), tu_ne e5 (by decide +kernel), tu_ne e4 (by decide +kernel)]
    exact tu_at e3
  · rw [tu_ne e6 (by decide +kernel), tu_ne e5 (by decide +kernel)]
    exact tu_at e4
theorem tbk_s (h : TBK (r a) k) (e1 : r1 = va_up r a (upd (r a) x1.toNatClampNeg 500)) (e2 : r2 = va_up r1 a (upd (r1 a) x2.toNatClampNeg 25)) (e3 : r3 = va_up r2 a (upd (r2 a) x3.toNatClampNeg 5)) (e4 : r4 = va_up r3 a (upd (r3 a) x4.toNatClampNeg 20)) (i1 : x1.toNatClampNeg = 20 + 5 * k + 1) (i2 : x2.toNatClampNeg = 20 + 5 * k + 2) (i3 : x3.toNatClampNeg = 20 + 5 * k + 3) (i4 : x4.toNatClampNeg = 20 + 5 * k + 4) (hn : n = k + 1) : TBK (r4 a) n := by
  subst hn
  have o : ∀ i, i ≠ 20 + 5 * k + 1 → i ≠ 20 + 5 * k + 2 → i ≠ 20 + 5 * k + 3 → i ≠ 20 + 5 * k + 4 → r4 a i = r a i := fun i h1 h2 h3 h4 => by
    rw [tu_ne e4 (by rw [i4]; exact h4), tu_ne e3 (by rw [i3]; exact h3), tu_ne e2 (by rw [i2]; exact h2), tu_ne e1 (by rw [i1]; exact h1)]
  refine ⟨⟨?_, ?_, ?_⟩, fun j hj => ?_⟩
  · rw [o 13 (by omega) (by omega) (by omega) (by omega)]; exact h.1.1
  · rw [o 14 (by omega) (by omega) (by omega) (by omega)]; exact h.1.2.1
  · rw [o 15 (by omega) (by omega) (by omega) (by omega)]; exact h.1.2.2
  · by_cases hjk : j = k
    · subst hjk
      refine ⟨?_, ?_, ?_⟩
      · rw [tu_ne e4 (by omega), tu_ne e3 (by omega), tu_ne e2 (by omega), ← i1]
        exact tu_at e1
      · rw [tu_ne e4 (by omega), tu_ne e3 (by omega), ← i2]
        exact tu_at e2
      · rw [tu_ne e4 (by omega), ← i3]
        exact tu_at e3
    · rw [o _ (by omega) (by omega) (by omega) (by omega), o _ (by omega) (by omega) (by omega) (by omega), o _ (by omega) (by omega) (by omega) (by omega)]
      exact h.2 j (by omega)
theorem tbk_le {f : Nat → Int32} (h : TBK f k) (hn : n ≤ k) : TBK f n := ⟨h.1, fun j hj => h.2 j (by omega)⟩
theorem zn_tb {j k : Nat} (hj : j < 12) (hk : k < 5) : zn (20 + 5 * j + k) = 100 + k := by
  unfold zn
  rw [if_neg (by omega), if_pos (by omega)]
  omega
theorem tbk_cg {f g : Nat → Int32} (h : TBK f 12) (e : ∀ j, zn j ∈ ztl → g j = f j) : TBK g 12 := ⟨⟨by rw [e 13 (by decide +kernel)]; exact h.1.1, by rw [e 14 (by decide +kernel)]; exact h.1.2.1, by rw [e 15 (by decide +kernel)]; exact h.1.2.2⟩, fun j hj => by
  rw [e _ (by rw [zn_tb hj (by decide +kernel)]; decide), e _ (by rw [zn_tb hj (by decide +kernel)]; decide), e _ (by rw [zn_tb hj (by decide +kernel)]; decide)]
  exact h.2 j hj⟩
end TBS
/-! ===== making the objects: shapes that grow field by field ===== -/
/-- the counted fields that are 0 as all begins -/
abbrev cfz : List Nat := [64, 65, 224, 10, 0, 32, 320, 256, 193, 96, 98]
/-- the rows that are 0 as all begins, by their tags -/
abbrev zt0 : List Nat := [288, 33, 69, 70, 73, 74, 75, 229, 5, 192]
/-- a field of an object stands as it should -/
def LFx (σ : pq_S) (tg : Nat → Nat) (a f : Nat) : Prop := ∃ w, σ.2.2.1 f a = some w ∧ w ∈ σ.1 ∧ σ.2.1 w = (ftp f).2.1 ∧ (13 ≤ (ftp f).2.1 → σ.2.2.2 w = (ftp f).2.2 ∧ tg w = f)
/-- what is in a new pool: numbers in their ranges, nothing in the rows of references -/
def NV (tg : Nat → Nat) (I ri : Nat → Nat → Int32) (rq : Nat → Nat → Option Nat) : Prop := (∀ f a, rg (I f a) (rIt f).1 (rIt f).2) ∧ (∀ q j, rg (ri q j) (rAt (tg q)).1 (rAt (tg q)).2) ∧ (∀ q j, rq q j = none) ∧ (∀ f, f ∈ cfz → ∀ b, I f b = 0) ∧ ∀ q, tg q ∈ zt0 → ∀ j, ri q j = 0
/-- no two fields hold the same object -/
def FJ (σ : pq_S) : Prop := ∀ f g w v q : Nat, w ∈ σ.1 → v ∈ σ.1 → (ftp f).1 = σ.2.1 w → (ftp g).1 = σ.2.1 v → σ.2.2.1 f w = some q → σ.2.2.1 g v = some q → f = g ∧ w = v
def CL0 (σ : pq_S) : Prop := ∀ f w q : Nat, w ∈ σ.1 → (ftp f).1 = σ.2.1 w → σ.2.2.1 f w = some q → q ∈ σ.1
def NR (σ : pq_S) (th : Nat) : Prop := ∀ f w : Nat, w ∈ σ.1 → (ftp f).1 = σ.2.1 w → σ.2.2.1 f w ≠ some th
theorem FJ_FI {σ : pq_S} (h : FJ σ) : FI σ := fun w v q hw hv h1 h2 e1 e2 => (h 258 258 w v q hw hv (by rw [h1]; rfl) (by rw [h2]; rfl) e1 e2).2
/-- an object th of kind k whose fields F stand; all others in the pool are whole -/
def CI (σ : pq_S) (tg : Nat → Nat) (th k : Nat) (F : List Nat) (I ri : Nat → Nat → Int32) (rq : Nat → Nat → Option Nat) : Prop := (th ∈ σ.1 ∧ σ.2.1 th = k) ∧ (∀ a, a ∈ σ.1 → a ≠ th → ∀ f, (ftp f).1 = σ.2.1 a → LFx σ tg a f) ∧ (∀ f, f ∈ F → LFx σ tg th f) ∧ NV tg I ri rq ∧ (FJ σ ∧ CL0 σ ∧ NR σ th)
/-- a pool in which all are whole -/
def DN (σ : pq_S) (tg : Nat → Nat) (I ri : Nat → Nat → Int32) (rq : Nat → Nat → Option Nat) : Prop := SH σ tg ∧ NV tg I ri rq ∧ FJ σ
def pq_T1 (q k : Nat) : pq_S := ([q], fun _ => k, fun _ _ => none, fun _ => 0)
def tq (tg : Nat → Nat) (q f : Nat) : Nat → Nat := fun b => if b = q then f else tg b
theorem CI_0 (th k : Nat) : CI (pq_T1 th k) (fun _ => 0) th k [] (fun _ _ => 0) (fun _ _ => 0) (fun _ _ => none) :=
  ⟨⟨List.mem_singleton.mpr rfl, rfl⟩, fun a ha hne => absurd (List.mem_singleton.mp ha) hne, (fun f h => by cases h), ⟨fun f _ => rIt_0 f, fun _ _ => rAt_0 _, fun _ _ => rfl, fun _ _ _ => rfl, fun _ _ _ => rfl⟩, ⟨fun f g w v q _ _ _ _ h => (by cases h), fun f w q _ _ h => (by cases h), fun f w _ _ h => (by cases h)⟩⟩
theorem LFx_as {σ σ1 : pq_S} {tg : Nat → Nat} {f a q k n b g : Nat} (h : As f a q k n σ σ1) (hb : b ∈ σ.1) (hg : g ≠ f ∨ b ≠ a) (x : LFx σ tg b g) : LFx σ1 (tq tg q f) b g := by
  obtain ⟨w, x1, x2, x3, x4⟩ := x
  have e := As_es (I := fun _ _ => 0) h
  obtain ⟨b1, b2, b3, b4, -⟩ := e b hb
  obtain ⟨q1, q2, q3, -, -⟩ := e w x2
  refine ⟨w, (b4 g hg).trans x1, q1, q2.trans x3, fun h13 => ⟨q3.trans (x4 h13).1, ?_⟩⟩
  unfold tq
  rw [if_neg (fun y : w = q => h.1 (y ▸ x2))]
  exact (x4 h13).2
theorem NV_as {tg : Nat → Nat} {I ri r1 : Nat → Nat → Int32} {rq q1 : Nat → Nat → Option Nat} {q f : Nat} (h : NV tg I ri rq) (hr : r1 = va_up ri q (fun _ => 0) ∨ (r1 = ri ∧ rAt f = (-2147483648, 2147483647) ∧ f ∉ zt0)) (hq : q1 = rq ∨ q1 = va_up rq q (fun _ => none)) : NV (tq tg q f) I r1 q1 := by
  obtain ⟨h1, h2, h3, h4, h5⟩ := h
  refine ⟨h1, fun b j => ?_, fun b j => ?_, h4, fun b hb j => ?_⟩
  · by_cases hb : b = q
    · rw [show tq tg q f b = f from if_pos hb]
      rcases hr with e | ⟨e, e2, e3⟩
      · rw [e, hb, va_up_self]; exact rAt_0 f
      · rw [e2]; exact rg_full _
    · rw [show tq tg q f b = tg b from if_neg hb]
      rcases hr with e | ⟨e, e2, e3⟩
      · rw [e, va_up_ne _ _ hb]; exact h2 b j
      · rw [e]; exact h2 b j
  · rcases hq with e | e
    · rw [e]; exact h3 b j
    · rw [e]
      unfold va_up
      split
      · rfl
      · exact h3 b j
  · by_cases hq2 : b = q
    · rcases hr with e | ⟨e, e2, e3⟩
      · rw [e, hq2, va_up_self]
      · rw [show tq tg q f b = f from if_pos hq2] at hb
        exfalso
        exact e3 hb
    · rw [show tq tg q f b = tg b from if_neg hq2] at hb
      rcases hr with e | ⟨e, e2, e3⟩
      · rw [e, va_up_ne _ _ hq2]; exact h5 b hb j
      · rw [e]; exact h5 b hb j
theorem As_mem {f a q k n b : Nat} {σ σ1 : pq_S} (h : As f a q k n σ σ1) : b ∈ σ1.1 ↔ b ∈ σ.1 ∨ b = q := by
  obtain ⟨-, rfl⟩ := h
  show b ∈ σ.1 ++ [q] ↔ _
  rw [List.mem_append, List.mem_singleton]
theorem As_k {f a q k n : Nat} {σ σ1 : pq_S} (h : As f a q k n σ σ1) : σ1.2.1 q = k ∧ σ1.2.2.2 q = n ∧ σ1.2.2.1 f a = some q := by
  obtain ⟨-, rfl⟩ := h
  exact ⟨va_up_self _ _ _, va_up_self _ _ _, pq_us _ _ _ _⟩
theorem CI_as {σ σ1 : pq_S} {tg : Nat → Nat} {th k : Nat} {F : List Nat} {I ri r1 : Nat → Nat → Int32} {rq q1 : Nat → Nat → Option Nat} {f q kd n : Nat} (h : CI σ tg th k F I ri rq) (hA : As f th q kd n σ σ1) (hf : ftp f = (k, kd, n)) (h13 : 13 ≤ kd ∧ kd ≠ 99 ∧ k < 13 ∧ f ∉ F) (hr : r1 = va_up ri q (fun _ => 0) ∨ (r1 = ri ∧ rAt f = (-2147483648, 2147483647) ∧ f ∉ zt0)) (hq : q1 = rq ∨ q1 = va_up rq q (fun _ => none)) (hkd : kd = 13 ∨ kd = 14 ∨ kd = 15 ∨ kd = 16) : CI σ1 (tq tg q f) th k (f :: F) I r1 q1 := by
  obtain ⟨⟨a1, a2⟩, a3, a4, a5, a7⟩ := h
  have e := As_es (I := fun _ _ => 0) hA
  have hqn := hA.1
  have ak := As_k hA
  have h9 : ∀ g, (ftp g).1 ≠ kd := fun g hg => by
    have h8 : ∀ g, g < 416 → (ftp g).1 < 13 ∨ (ftp g).1 = 99 := by decide +kernel
    by_cases hl : g < 416
    · have := h8 g hl; omega
    · rw [ftp_ge g hl] at hg; have : (99 : Nat) = kd := hg; omega
  have key : ∀ g b, b ∈ σ1.1 → (ftp g).1 = σ1.2.1 b → b ∈ σ.1 ∧ (ftp g).1 = σ.2.1 b := fun g b hb hg => by
    rcases (As_mem hA).mp hb with h | h
    · exact ⟨h, hg.trans (e b h).2.1⟩
    · rw [h, ak.1] at hg
      exact absurd hg (h9 g)
  have val : ∀ g b z, b ∈ σ.1 → (ftp g).1 = σ.2.1 b → σ1.2.2.1 g b = some z → (g = f ∧ b = th ∧ z = q) ∨ (σ.2.2.1 g b = some z ∧ z ∈ σ.1) := fun g b z hb hg hz => by
    by_cases y1 : g = f
    · by_cases y2 : b = th
      · rw [y1, y2, ak.2.2] at hz
        exact Or.inl ⟨y1, y2, (Option.some.inj hz).symm⟩
      · rw [(e b hb).2.2.2.1 g (Or.inr y2)] at hz
        exact Or.inr ⟨hz, a7.2.1 g b z hb hg hz⟩
    · rw [(e b hb).2.2.2.1 g (Or.inl y1)] at hz
      exact Or.inr ⟨hz, a7.2.1 g b z hb hg hz⟩
  refine ⟨⟨(e th a1).1, (e th a1).2.1.trans a2⟩, fun a ha hne g hg => ?_, fun g hg => ?_, NV_as a5 hr hq, fun f1 g1 w v z hw hv hkw hkv h1 h2 => ?_, fun g b z hb hg hz => ?_, fun g b hb hg hz => ?_⟩
  · rcases (As_mem hA).mp ha with h | h
    · exact LFx_as hA h (Or.inr hne) (a3 a h hne g (by rw [← (e a h).2.1]; exact hg))
    · rw [h, ak.1] at hg
      exact absurd hg (h9 g)
  · rcases List.mem_cons.mp hg with h | h
    · rw [h]
      exact ⟨q, ak.2.2, (As_mem hA).mpr (Or.inr rfl), by rw [ak.1, hf], fun _ => ⟨by rw [ak.2.1, hf], if_pos rfl⟩⟩
    · exact LFx_as hA a1 (Or.inl (fun y => h13.2.2.2 (y ▸ h))) (a4 g h)
  · obtain ⟨hw0, hk1⟩ := key f1 w hw hkw
    obtain ⟨hv0, hk2⟩ := key g1 v hv hkv
    rcases val f1 w z hw0 hk1 h1 with ⟨x1, x2, x3⟩ | ⟨x1, x2⟩ <;> rcases val g1 v z hv0 hk2 h2 with ⟨y1, y2, y3⟩ | ⟨y1, y2⟩
    · exact ⟨x1.trans y1.symm, x2.trans y2.symm⟩
    · exact absurd (x3 ▸ y2) hqn
    · exact absurd (y3 ▸ x2) hqn
    · exact a7.1 f1 g1 w v z hw0 hv0 hk1 hk2 x1 y1
  · obtain ⟨hb0, hk0⟩ := key g b hb hg
    rcases val g b z hb0 hk0 hz with ⟨x1, x2, x3⟩ | ⟨x1, x2⟩
    · rw [x3]; exact (As_mem hA).mpr (Or.inr rfl)
    · exact (As_mem hA).mpr (Or.inl x2)
  · obtain ⟨hb0, hk0⟩ := key g b hb hg
    rcases val g b th hb0 hk0 hz with ⟨x1, x2, x3⟩ | ⟨x1, x2⟩
    · exact hqn (x3 ▸ a1)
    · exact a7.2.2 g b hb0 hk0 x1
theorem CI_put {σ : pq_S} {tg : Nat → Nat} {th k : Nat} {F : List Nat} {I I1 ri : Nat → Nat → Int32} {rq : Nat → Nat → Option Nat} {f : Nat} {v : Int32} {lo hi : Int} (h : CI σ tg th k F I ri rq) (e : I1 = pq_u I f th v) (er : rIt f = (lo, hi)) (hv : rg v lo hi) (hf : f ∉ cfz) : CI σ tg th k F I1 ri rq := by
  obtain ⟨a1, a3, a4, ⟨b1, b2, b3, b4, b5⟩, a7⟩ := h
  refine ⟨a1, a3, a4, ⟨fun g b => ?_, b2, b3, fun g hg b => ?_, b5⟩, a7⟩
  · rw [e]
    by_cases hgf : g = f
    · rw [hgf]
      by_cases hb : b = th
      · rw [hb, pq_us, er]; exact hv
      · rw [pq_ua _ _ _ _ hb]; exact b1 f b
    · rw [pq_uf _ _ _ hgf]; exact b1 g b
  · rw [e, pq_uf _ _ _ (show g ≠ f from fun y => hf (y ▸ hg))]
    exact b4 g hg b
theorem CI_done {σ : pq_S} {tg : Nat → Nat} {th k : Nat} {F : List Nat} {I ri : Nat → Nat → Int32} {rq : Nat → Nat → Option Nat} (h : CI σ tg th k F I ri rq) (hk : k < 13) (hF : ∀ g, g < 416 → (ftp g).1 = k → g ∈ F) : DN σ tg I ri rq := by
  obtain ⟨⟨a1, a2⟩, a3, a4, a5, a7⟩ := h
  refine ⟨fun a ha g hg => ?_, a5, a7.1⟩
  by_cases y : a = th
  · rw [y] at hg ⊢
    rw [a2] at hg
    by_cases hl : g < 416
    · exact a4 g (hF g hl hg)
    · rw [ftp_ge g hl] at hg; have : (99 : Nat) = k := hg; omega
  · exact a3 a ha y g hg
theorem DN_gs {σ : pq_S} {tg : Nat → Nat} {I ri : Nat → Nat → Int32} {rq : Nat → Nat → Option Nat} (h : DN σ tg I ri rq) : GS tg σ I ri rq := by
  obtain ⟨a1, ⟨b1, b2, b3, b4, -⟩, a7⟩ := h
  refine ⟨b1, b2, fun q j w e => ?_, fun w _ _ q _ c hc => ?_⟩
  · rw [b3 q j] at e; cases e
  · rw [b4 256 (by decide +kernel) w] at hc
    have z : (0 : Int32).toInt = 0 := rfl
    omega
/-- a row is filled -/
theorem DN_fill {X : List Nat} {σ : pq_S} {tg : Nat → Nat} {I ri r1 : Nat → Nat → Int32} {j0 rj : Nat → Nat → Int64} {rq : Nat → Nat → Option Nat} (h : DN σ tg I ri rq) (h1 : GX X tg σ I ri j0 I r1 rj rq) {w f : Nat} {g : Nat → Int32} (he : r1 = va_up ri w g) (ht : tg w = f) (hX : f ∉ zt0) : DN σ tg I r1 rq := ⟨h.1, ⟨h.2.1.1, h1.1.2.1, h.2.1.2.2.1, h.2.1.2.2.2.1, fun q hq j => by
  rw [he, va_up_ne _ _ (show q ≠ w from fun z => hX (by rw [← ht, ← z]; exact hq))]; exact h.2.1.2.2.2.2 q hq j⟩, h.2.2⟩
/-! two pools become one -/
def pU (σ τ : pq_S) : pq_S := (σ.1 ++ τ.1, fun a => if a ∈ τ.1 then τ.2.1 a else σ.2.1 a, fun f a => if a ∈ τ.1 then τ.2.2.1 f a else σ.2.2.1 f a, fun a => if a ∈ τ.1 then τ.2.2.2 a else σ.2.2.2 a)
def fU {α : Type} (L : List Nat) (x y : Nat → Nat → α) : Nat → Nat → α := fun f a => if a ∈ L then y f a else x f a
def gU {α : Type} (L : List Nat) (x y : Nat → α) : Nat → α := fun a => if a ∈ L then y a else x a
theorem fU_i {α : Type} {L : List Nat} {x y : Nat → Nat → α} {f a : Nat} (h : a ∈ L) : fU L x y f a = y f a := if_pos h
theorem fU_o {α : Type} {L : List Nat} {x y : Nat → Nat → α} {f a : Nat} (h : a ∉ L) : fU L x y f a = x f a := if_neg h
theorem gU_i {α : Type} {L : List Nat} {x y : Nat → α} {a : Nat} (h : a ∈ L) : gU L x y a = y a := if_pos h
theorem gU_o {α : Type} {L : List Nat} {x y : Nat → α} {a : Nat} (h : a ∉ L) : gU L x y a = x a := if_neg h
theorem pq_flC {R R1 : Nat → Nat → Option Nat} {I I1 : Nat → Nat → Int32} {J J1 : Nat → Nat → Int64} {k a : Nat} (h1 : ∀ f, R1 f a = R f a) (h2 : ∀ f, I1 f a = I f a) (h3 : ∀ f, J1 f a = J f a) : pq_fl R1 I1 J1 k a = pq_fl R I J k a := by
  unfold pq_fl
  split <;> simp only [h1, h2, h3]
theorem pq_EC {t : pq_T} {σ σ1 : pq_S} {I I1 : Nat → Nat → Int32} {J J1 : Nat → Nat → Int64} {ri r1 : Nat → Nat → Int32} {rj j1 : Nat → Nat → Int64} {rq q1 : Nat → Nat → Option Nat} {a : Nat} (h0 : σ1.2.1 a = σ.2.1 a) (hn : σ1.2.2.2 a = σ.2.2.2 a) (h1 : ∀ f, σ1.2.2.1 f a = σ.2.2.1 f a) (h2 : ∀ f, I1 f a = I f a) (h3 : ∀ f, J1 f a = J f a) (h4 : r1 a = ri a) (h5 : j1 a = rj a) (h6 : q1 a = rq a) : pq_E t σ1 (I1, J1, r1, j1, q1) a = pq_E t σ (I, J, ri, rj, rq) a := by
  have e : ∀ k, pq_fl σ1.2.2.1 I1 J1 k a = pq_fl σ.2.2.1 I J k a := fun k => pq_flC h1 h2 h3
  unfold pq_E
  rw [h0]
  split <;> simp only [hn, h4, h5, h6, e]
section PU
variable {t : pq_T} {σ τ : pq_S} {I I2 : Nat → Nat → Int32} {J J2 : Nat → Nat → Int64} {ri si : Nat → Nat → Int32} {rj sj : Nat → Nat → Int64} {rq sq : Nat → Nat → Option Nat} {D : va_G} {H : Heap} {A : Nat → Prop}
theorem pU_eq (hd : ∀ a, a ∈ σ.1 → a ∉ τ.1) : pq_P t (pU σ τ) (fU τ.1 I I2, fU τ.1 J J2, gU τ.1 ri si, gU τ.1 rj sj, gU τ.1 rq sq) = pq_P t σ (I, J, ri, rj, rq) ++ pq_P t τ (I2, J2, si, sj, sq) := by
  unfold pq_P va_pl
  rw [show (pU σ τ).1 = σ.1 ++ τ.1 from rfl, List.map_append]
  congr 1
  · refine List.map_congr_left (fun a ha => ?_)
    have hn := hd a ha
    exact congrArg (Prod.mk a) (pq_EC (if_neg hn) (if_neg hn) (fun f => if_neg hn) (fun f => if_neg hn) (fun f => if_neg hn) (if_neg hn) (if_neg hn) (if_neg hn))
  · refine List.map_congr_left (fun a ha => ?_)
    exact congrArg (Prod.mk a) (pq_EC (if_pos ha) (if_pos ha) (fun f => if_pos ha) (fun f => if_pos ha) (fun f => if_pos ha) (if_pos ha) (if_pos ha) (if_pos ha))
theorem va_Papp {w1 w2 : va_W} (h1 : va_P D vwCl w1 H) (h2 : va_P D vwCl w2 H) : va_P D vwCl (w1 ++ w2) H := fun k q hk => by
  by_cases h : k < w1.length
  · rw [List.getElem?_append_left h] at hk; exact h1 k q hk
  · rw [List.getElem?_append_right (by omega)] at hk; exact h2 _ q hk
theorem va_Dapp {w1 w2 : va_W} (h1 : va_D A w1) (h2 : va_D A w2) (hd : ∀ (i j : Nat) (p q : Nat × va_E), w1[i]? = some p → w2[j]? = some q → p.1 ≠ q.1) : va_D A (w1 ++ w2) := by
  refine ⟨fun i j p q hp hq e => ?_, fun k q hk => ?_⟩
  · by_cases hi : i < w1.length <;> by_cases hj : j < w1.length
    · rw [List.getElem?_append_left hi] at hp; rw [List.getElem?_append_left hj] at hq; exact h1.1 i j p q hp hq e
    · rw [List.getElem?_append_left hi] at hp; rw [List.getElem?_append_right (by omega)] at hq; exact absurd e (hd _ _ p q hp hq)
    · rw [List.getElem?_append_right (by omega)] at hp; rw [List.getElem?_append_left hj] at hq; exact absurd e.symm (hd _ _ q p hq hp)
    · rw [List.getElem?_append_right (by omega)] at hp; rw [List.getElem?_append_right (by omega)] at hq
      have := h2.1 _ _ p q hp hq e
      omega
  · by_cases h : k < w1.length
    · rw [List.getElem?_append_left h] at hk; exact h1.2 k q hk
    · rw [List.getElem?_append_right (by omega)] at hk; exact h2.2 _ q hk
theorem pU_P (hd : ∀ a, a ∈ σ.1 → a ∉ τ.1) (h1 : va_P D vwCl (pq_P t σ (I, J, ri, rj, rq)) H) (h2 : va_P D vwCl (pq_P t τ (I2, J2, si, sj, sq)) H) : va_P D vwCl (pq_P t (pU σ τ) (fU τ.1 I I2, fU τ.1 J J2, gU τ.1 ri si, gU τ.1 rj sj, gU τ.1 rq sq)) H := by
  rw [pU_eq hd]; exact va_Papp h1 h2
theorem pU_D (hd : ∀ a, a ∈ σ.1 → a ∉ τ.1) (h1 : va_D A (pq_P t σ (I, J, ri, rj, rq))) (h2 : va_D A (pq_P t τ (I2, J2, si, sj, sq))) : va_D A (pq_P t (pU σ τ) (fU τ.1 I I2, fU τ.1 J J2, gU τ.1 ri si, gU τ.1 rj sj, gU τ.1 rq sq)) := by
  rw [pU_eq hd]
  exact va_Dapp h1 h2 (fun i j p q hp hq e => hd p.1 (pq_mem hp) (e ▸ pq_mem hq))
theorem pU_o (hd : ∀ a, a ∈ σ.1 → a ∉ τ.1) {a : Nat} (ha : a ∈ σ.1) : a ∈ (pU σ τ).1 ∧ (pU σ τ).2.1 a = σ.2.1 a ∧ (pU σ τ).2.2.2 a = σ.2.2.2 a ∧ ∀ f, (pU σ τ).2.2.1 f a = σ.2.2.1 f a := ⟨List.mem_append_left _ ha, if_neg (hd a ha), if_neg (hd a ha), fun f => if_neg (hd a ha)⟩
theorem pU_i {a : Nat} (ha : a ∈ τ.1) : a ∈ (pU σ τ).1 ∧ (pU σ τ).2.1 a = τ.2.1 a ∧ (pU σ τ).2.2.2 a = τ.2.2.2 a ∧ ∀ f, (pU σ τ).2.2.1 f a = τ.2.2.1 f a := ⟨List.mem_append_right _ ha, if_pos ha, if_pos ha, fun f => if_pos ha⟩
theorem LFx_uo {tg tg2 : Nat → Nat} (hd : ∀ a, a ∈ σ.1 → a ∉ τ.1) {a f : Nat} (ha : a ∈ σ.1) (h : LFx σ tg a f) : LFx (pU σ τ) (gU τ.1 tg tg2) a f := by
  obtain ⟨w, x1, x2, x3, x4⟩ := h
  have hw := pU_o hd x2
  exact ⟨w, ((pU_o hd ha).2.2.2 f).trans x1, hw.1, hw.2.1.trans x3, fun h13 => ⟨hw.2.2.1.trans (x4 h13).1, (gU_o (hd w x2)).trans (x4 h13).2⟩⟩
theorem LFx_ui {tg tg2 : Nat → Nat} {a f : Nat} (ha : a ∈ τ.1) (h : LFx τ tg2 a f) : LFx (pU σ τ) (gU τ.1 tg tg2) a f := by
  obtain ⟨w, x1, x2, x3, x4⟩ := h
  have hw := pU_i (σ := σ) x2
  exact ⟨w, ((pU_i ha).2.2.2 f).trans x1, hw.1, hw.2.1.trans x3, fun h13 => ⟨hw.2.2.1.trans (x4 h13).1, (gU_i x2).trans (x4 h13).2⟩⟩
theorem pU_out {tg2 : Nat → Nat} (hd : ∀ a, a ∈ σ.1 → a ∉ τ.1) (hC : CL0 σ) (hS : SH τ tg2) : ∀ g b z, b ∈ (pU σ τ).1 → (ftp g).1 = (pU σ τ).2.1 b → (pU σ τ).2.2.1 g b = some z → (b ∈ σ.1 ∧ (ftp g).1 = σ.2.1 b ∧ σ.2.2.1 g b = some z ∧ z ∈ σ.1) ∨ (b ∈ τ.1 ∧ (ftp g).1 = τ.2.1 b ∧ τ.2.2.1 g b = some z ∧ z ∈ τ.1) := fun g b z hb hg hz => by
  rcases List.mem_append.mp hb with h | h
  · rw [(pU_o hd h).2.1] at hg
    rw [(pU_o hd h).2.2.2] at hz
    exact Or.inl ⟨h, hg, hz, hC g b z h hg hz⟩
  · rw [(pU_i (σ := σ) h).2.1] at hg
    rw [(pU_i (σ := σ) h).2.2.2] at hz
    obtain ⟨x, x1, x2, -⟩ := hS b h g hg
    rw [hz] at x1
    exact Or.inr ⟨h, hg, hz, by rw [Option.some.inj x1]; exact x2⟩
theorem CI_uni {tg tg2 : Nat → Nat} {th k : Nat} {F : List Nat} (hd : ∀ a, a ∈ σ.1 → a ∉ τ.1) (h : CI σ tg th k F I ri rq) (h2 : DN τ tg2 I2 si sq) : CI (pU σ τ) (gU τ.1 tg tg2) th k F (fU τ.1 I I2) (gU τ.1 ri si) (gU τ.1 rq sq) := by
  obtain ⟨⟨a1, a2⟩, a3, a4, ⟨b1, b2, b3, b4, b5⟩, a7⟩ := h
  obtain ⟨c1, ⟨d1, d2, d3, d4, d5⟩, c3⟩ := h2
  have outs := pU_out hd a7.2.1 c1
  refine ⟨⟨(pU_o hd a1).1, (pU_o hd a1).2.1.trans a2⟩, fun a ha hne g hg => ?_, fun g hg => LFx_uo hd a1 (a4 g hg), ⟨fun f a => ?_, fun q j => ?_, fun q j => ?_, fun f hf b => ?_, fun q hq j => ?_⟩, fun f1 g1 w v z hw hv hkw hkv h1 h2 => ?_, fun g b z hb hg hz => ?_, fun g b hb hg hz => ?_⟩
  · rcases List.mem_append.mp ha with h | h
    · exact LFx_uo hd h (a3 a h hne g (by rw [← (pU_o hd h).2.1]; exact hg))
    · exact LFx_ui h (c1 a h g (by rw [← (pU_i (σ := σ) h).2.1]; exact hg))
  · by_cases h : a ∈ τ.1
    · rw [fU_i h]; exact d1 f a
    · rw [fU_o h]; exact b1 f a
  · by_cases h : q ∈ τ.1
    · rw [gU_i h, gU_i h]; exact d2 q j
    · rw [gU_o h, gU_o h]; exact b2 q j
  · by_cases h : q ∈ τ.1
    · rw [gU_i h]; exact d3 q j
    · rw [gU_o h]; exact b3 q j
  · by_cases h : b ∈ τ.1
    · rw [fU_i h]; exact d4 f hf b
    · rw [fU_o h]; exact b4 f hf b
  · by_cases h : q ∈ τ.1
    · rw [gU_i h] at hq ⊢; exact d5 q hq j
    · rw [gU_o h] at hq ⊢; exact b5 q hq j
  · rcases outs f1 w z hw hkw h1 with ⟨x1, x2, x3, x4⟩ | ⟨x1, x2, x3, x4⟩ <;> rcases outs g1 v z hv hkv h2 with ⟨y1, y2, y3, y4⟩ | ⟨y1, y2, y3, y4⟩
    · exact a7.1 f1 g1 w v z x1 y1 x2 y2 x3 y3
    · exact absurd y4 (hd z x4)
    · exact absurd x4 (hd z y4)
    · exact c3 f1 g1 w v z x1 y1 x2 y2 x3 y3
  · rcases outs g b z hb hg hz with ⟨x1, x2, x3, x4⟩ | ⟨x1, x2, x3, x4⟩
    · exact List.mem_append_left _ x4
    · exact List.mem_append_right _ x4
  · rcases outs g b th hb hg hz with ⟨x1, x2, x3, x4⟩ | ⟨x1, x2, x3, x4⟩
    · exact a7.2.2 g b x1 x2 x3
    · exact hd th a1 x4
theorem NR_uni {tg tg2 : Nat → Nat} {th k q : Nat} {F : List Nat} (hd : ∀ a, a ∈ σ.1 → a ∉ τ.1) (h : CI σ tg th k F I ri rq) (h2 : SH τ tg2) (hN : NR τ q) (hq : q ∈ τ.1) : NR (pU σ τ) q := fun g b hb hg hz => by
  rcases pU_out hd h.2.2.2.2.2.1 h2 g b q hb hg hz with ⟨x1, x2, x3, x4⟩ | ⟨x1, x2, x3, x4⟩
  · exact hd q x4 hq
  · exact hN g b x1 x2 x3
end PU
/-- an object that was made comes into a field -/
theorem CI_ps {σ σ1 : pq_S} {tg : Nat → Nat} {th k : Nat} {F : List Nat} {I ri : Nat → Nat → Int32} {rq : Nat → Nat → Option Nat} {f q kd : Nat} (h : CI σ tg th k F I ri rq) (hp : Ps f th q σ σ1) (hf : ftp f = (k, kd, 0)) (hq : q ∈ σ.1) (hk : σ.2.1 q = kd) (hNq : NR σ q) (hx : kd < 13 ∧ kd ≠ k ∧ f ∉ F) : CI σ1 tg th k (f :: F) I ri rq := by
  obtain ⟨⟨a1, a2⟩, a3, a4, a5, a7⟩ := h
  subst hp
  have keep : ∀ a g, (g ≠ f ∨ a ≠ th) → LFx σ tg a g → LFx (σ.1, σ.2.1, pq_u σ.2.2.1 f th (some q), σ.2.2.2) tg a g := fun a g hg hl => by
    obtain ⟨w, x1, x2, x3, x4⟩ := hl
    refine ⟨w, ?_, x2, x3, x4⟩
    show pq_u σ.2.2.1 f th (some q) g a = _
    rcases hg with y | y
    · rw [pq_uf _ _ _ y]; exact x1
    · rw [pq_ua _ _ _ _ y]; exact x1
  have val : ∀ g b z, pq_u σ.2.2.1 f th (some q) g b = some z → (g = f ∧ b = th ∧ z = q) ∨ σ.2.2.1 g b = some z := fun g b z hz => by
    by_cases y1 : g = f
    · by_cases y2 : b = th
      · rw [y1, y2, pq_us] at hz
        exact Or.inl ⟨y1, y2, (Option.some.inj hz).symm⟩
      · rw [pq_ua _ _ _ _ y2] at hz
        exact Or.inr hz
    · rw [pq_uf _ _ _ y1] at hz
      exact Or.inr hz
  refine ⟨⟨a1, a2⟩, fun a ha hne g hg => keep a g (Or.inr hne) (a3 a ha hne g hg), fun g hg => ?_, a5, fun f1 g1 w v z hw hv hkw hkv h1 h2 => ?_, fun g b z hb hg hz => ?_, fun g b hb hg hz => ?_⟩
  · rcases List.mem_cons.mp hg with y | y
    · rw [y]
      exact ⟨q, pq_us _ _ _ _, hq, by rw [hf]; exact hk, fun h13 => absurd h13 (by rw [hf]; show ¬ 13 ≤ kd; omega)⟩
    · exact keep th g (Or.inl (fun z => hx.2.2 (z ▸ y))) (a4 g y)
  · rcases val f1 w z h1 with ⟨x1, x2, x3⟩ | x1 <;> rcases val g1 v z h2 with ⟨y1, y2, y3⟩ | y1
    · exact ⟨x1.trans y1.symm, x2.trans y2.symm⟩
    · exact absurd (x3 ▸ y1) (hNq g1 v hv hkv)
    · exact absurd (y3 ▸ x1) (hNq f1 w hw hkw)
    · exact a7.1 f1 g1 w v z hw hv hkw hkv x1 y1
  · rcases val g b z hz with ⟨x1, x2, x3⟩ | x1
    · exact x3 ▸ hq
    · exact a7.2.1 g b z hb hg x1
  · rcases val g b th hz with ⟨x1, x2, x3⟩ | x1
    · exact hx.2.1 (by rw [← hk, ← a2, x3])
    · exact a7.2.2 g b hb hg x1

/-! what SEAS and LAND hold as all begins -/
/-- of one object: its numbers and rows as its constructor leaves them -/
def PXo (σ : pq_S) (I ri : Nat → Nat → Int32) (a : Nat) : Prop := (σ.2.1 a = 2 → ∀ q, σ.2.2.1 79 a = some q → ∀ j, j < 40 → ri q j = -1) ∧ (σ.2.1 a = 7 → (I 234 a = 29 ∧ I 235 a = 1 ∧ I 236 a = 10) ∧ (∀ q, σ.2.2.1 230 a = some q → ∀ j, j < 12 → ri q j = 500) ∧ (∀ q, σ.2.2.1 231 a = some q → ∀ j, j < 12 → ri q j = 25) ∧ ∀ q, σ.2.2.1 232 a = some q → ∀ j, j < 12 → ri q j = 5) ∧ (σ.2.1 a = 4 → I 129 a = -1 ∧ I 130 a = -1)
def PXe (σ : pq_S) (I ri : Nat → Nat → Int32) (th : Nat) : Prop := ∀ a, a ∈ σ.1 → a ≠ th → PXo σ I ri a
def PXa (σ : pq_S) (I ri : Nat → Nat → Int32) : Prop := ∀ a, a ∈ σ.1 → PXo σ I ri a
section PXS
variable {σ σ1 τ : pq_S} {I I1 I2 ri r1 si : Nat → Nat → Int32} {tg tg2 : Nat → Nat} {th k : Nat} {F : List Nat} {rq sq : Nat → Nat → Option Nat}
theorem PX_no (h2 : σ.2.1 th ≠ 2) (h7 : σ.2.1 th ≠ 7) (h4 : σ.2.1 th ≠ 4) : PXo σ I ri th := ⟨fun e => absurd e h2, fun e => absurd e h7, fun e => absurd e h4⟩
/-- an object keeps what it holds where its fields and rows stand -/
theorem PXo_cg {a : Nat} (h : PXo σ I ri a) (hk : σ1.2.1 a = σ.2.1 a) (hf : ∀ g, (ftp g).1 = σ.2.1 a → σ1.2.2.1 g a = σ.2.2.1 g a) (hI : ∀ g, I1 g a = I g a) (hr : ∀ g q, (ftp g).1 = σ.2.1 a → σ.2.2.1 g a = some q → r1 q = ri q) : PXo σ1 I1 r1 a := by
  have row : ∀ g n v, (ftp g).1 = σ.2.1 a → (∀ q, σ.2.2.1 g a = some q → ∀ j, j < n → ri q j = v) → ∀ q, σ1.2.2.1 g a = some q → ∀ j, j < n → r1 q j = v := fun g n v hg h1 q hq j hj => by
    rw [hf g hg] at hq
    rw [hr g q hg hq]
    exact h1 q hq j hj
  refine ⟨fun e => ?_, fun e => ?_, fun e => ?_⟩
  · rw [hk] at e
    exact row 79 40 (-1) (by rw [e]; rfl) (h.1 e)
  · rw [hk] at e
    obtain ⟨⟨i1, i2, i3⟩, r2, r3, r4⟩ := h.2.1 e
    refine ⟨⟨by rw [hI]; exact i1, by rw [hI]; exact i2, by rw [hI]; exact i3⟩, row 230 12 500 (by rw [e]; rfl) r2, row 231 12 25 (by rw [e]; rfl) r3, row 232 12 5 (by rw [e]; rfl) r4⟩
  · rw [hk] at e
    exact ⟨by rw [hI]; exact (h.2.2 e).1, by rw [hI]; exact (h.2.2 e).2⟩
theorem PXe_0 {h0 : σ = pq_T1 th k} : PXe σ I ri th := fun a ha hn => by
  rw [h0] at ha
  exact absurd (List.mem_singleton.mp ha) hn
theorem PXe_as {f q kd n : Nat} (h : PXe σ I ri th) (hC : CI σ tg th k F I ri rq) (hA : As f th q kd n σ σ1) (hkd : kd = 13 ∨ kd = 14 ∨ kd = 15 ∨ kd = 16) (hr : r1 = va_up ri q (fun _ => 0) ∨ r1 = ri) : PXe σ1 I r1 th := fun a ha hn => by
  have e := As_es (I := fun _ _ => 0) hA
  have ak := As_k hA
  rcases (As_mem hA).mp ha with hm | hm
  · refine PXo_cg (h a hm hn) (e a hm).2.1 (fun g _ => (e a hm).2.2.2.1 g (Or.inr hn)) (fun _ => rfl) (fun g q2 hg hq2 => ?_)
    have hq3 := hC.2.2.2.2.2.1 g a q2 hm hg hq2
    rcases hr with y | y
    · rw [y, va_up_ne _ _ (show q2 ≠ q from fun z => hA.1 (z ▸ hq3))]
    · rw [y]
  · exact PX_no (by rw [hm, ak.1]; omega) (by rw [hm, ak.1]; omega) (by rw [hm, ak.1]; omega)
theorem PXe_put {f : Nat} {v : Int32} (h : PXe σ I ri th) (e : I1 = pq_u I f th v) : PXe σ I1 ri th := fun a ha hn => PXo_cg (h a ha hn) rfl (fun _ _ => rfl) (fun g => by
  rw [e]
  by_cases hg : g = f
  · rw [hg, pq_ua _ _ _ _ hn]
  · rw [pq_uf _ _ _ hg]) (fun _ _ _ _ => rfl)
theorem PXe_ps {f q : Nat} (h : PXe σ I ri th) (hp : Ps f th q σ σ1) : PXe σ1 I ri th := fun a ha hn => by
  subst hp
  refine PXo_cg (h a ha hn) rfl (fun g _ => ?_) (fun _ => rfl) (fun _ _ _ _ => rfl)
  show pq_u σ.2.2.1 f th (some q) g a = _
  by_cases hg : g = f
  · rw [hg, pq_ua _ _ _ _ hn]
  · rw [pq_uf _ _ _ hg]
theorem PXe_uni (hd : ∀ a, a ∈ σ.1 → a ∉ τ.1) (h : PXe σ I ri th) (hC : CI σ tg th k F I ri rq) (h2 : PXa τ I2 si) (hS : SH τ tg2) : PXe (pU σ τ) (fU τ.1 I I2) (gU τ.1 ri si) th := fun a ha hn => by
  rcases List.mem_append.mp ha with hm | hm
  · have p := pU_o hd hm
    refine PXo_cg (h a hm hn) p.2.1 (fun g _ => p.2.2.2 g) (fun g => fU_o (hd a hm)) (fun g q hg hq => gU_o (hd q (hC.2.2.2.2.2.1 g a q hm hg hq)))
  · have p := pU_i (σ := σ) hm
    refine PXo_cg (h2 a hm) p.2.1 (fun g _ => p.2.2.2 g) (fun g => fU_i hm) (fun g q hg hq => ?_)
    obtain ⟨x, x1, x2, -⟩ := hS a hm g hg
    rw [hq] at x1
    rw [Option.some.inj x1]
    exact gU_i x2
theorem PXe_all (h : PXe σ I ri th) (ht : PXo σ I ri th) : PXa σ I ri := fun a ha => by
  by_cases e : a = th
  · rw [e]; exact ht
  · exact h a ha e
/-- a row of the object that is made is filled: all others stand -/
theorem PXe_fill {f w n : Nat} {v : Int32} (h : PXe σ I ri th) (hJ : FJ σ) (hL : th ∈ σ.1) (hf : (ftp f).1 = σ.2.1 th) (hR : σ.2.2.1 f th = some w) (e : r1 = va_up ri w (fil v n (ri w))) : PXe σ I r1 th := fun a ha hn => PXo_cg (h a ha hn) rfl (fun _ _ => rfl) (fun _ => rfl) (fun g q hg hq => by
  rw [e, va_up_ne _ _ (fun z => hn (hJ g f a th w ha hL hg hf (by rw [← z]; exact hq) hR).2)])
theorem fil_at {w n j : Nat} {v : Int32} (e : r1 = va_up ri w (fil v n (ri w))) (hj : j < n) : r1 w j = v := by
  rw [e, va_up_self]
  exact if_pos hj
theorem fil_ne {w q n : Nat} {v : Int32} (e : r1 = va_up ri w (fil v n (ri w))) (hq : q ≠ w) : r1 q = ri q := by
  rw [e, va_up_ne _ _ hq]
end PXS
