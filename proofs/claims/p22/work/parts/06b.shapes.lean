/-! ===== shapes and ranges, by fields ===== -/
def ftpl : List (List (Nat × Nat × Nat)) := [[(99, 0, 0), (0, 13, 40), (0, 13, 40), (0, 13, 40), (0, 13, 40), (0, 13, 40), (0, 13, 40), (0, 13, 40), (0, 13, 40), (0, 13, 40), (99, 0, 0), (0, 13, 5), (0, 13, 5), (0, 13, 5), (0, 13, 50), (0, 13, 50)],
  [(99, 0, 0), (1, 13, 30), (1, 14, 30)],
  [(99, 0, 0), (99, 0, 0), (99, 0, 0), (99, 0, 0), (2, 14, 600), (2, 13, 40), (2, 13, 40), (2, 13, 40), (2, 13, 40), (2, 13, 40), (2, 13, 40), (2, 13, 40), (2, 13, 40), (2, 13, 40), (2, 9, 0), (2, 13, 40), (2, 13, 5), (2, 13, 40), (2, 13, 32), (2, 13, 21)],
  [(99, 0, 0), (3, 16, 10), (99, 0, 0), (3, 13, 30), (3, 13, 30), (3, 13, 30), (3, 13, 6), (3, 13, 40)],
  [(4, 6, 0), (99, 0, 0), (99, 0, 0), (4, 8, 0), (99, 0, 0), (4, 13, 40), (99, 0, 0), (99, 0, 0), (99, 0, 0), (99, 0, 0), (99, 0, 0), (99, 0, 0)],
  [(99, 0, 0), (5, 13, 5), (5, 13, 5), (5, 13, 40), (99, 0, 0), (5, 14, 12), (5, 13, 60), (5, 14, 12)],
  [(6, 13, 300), (99, 0, 0), (99, 0, 0), (99, 0, 0), (99, 0, 0), (99, 0, 0)],
  [(99, 0, 0), (7, 13, 200), (7, 13, 200), (7, 13, 200), (7, 13, 200), (7, 13, 12), (7, 13, 12), (7, 13, 12), (7, 13, 12), (7, 13, 12), (99, 0, 0), (99, 0, 0), (99, 0, 0), (99, 0, 0), (99, 0, 0)],
  [(99, 0, 0), (8, 13, 20), (8, 13, 21), (8, 13, 300)],
  [(9, 13, 40), (9, 13, 40), (9, 13, 40)],
  [(99, 0, 0), (99, 0, 0), (99, 0, 0), (99, 0, 0), (99, 0, 0), (10, 13, 40), (10, 7, 0), (10, 2, 0), (10, 0, 0), (10, 3, 0), (10, 1, 0), (10, 13, 40), (10, 13, 5)],
  [(11, 10, 0), (11, 10, 0), (11, 10, 0), (11, 5, 0), (11, 4, 0)],
  [(12, 13, 12720), (12, 13, 12720), (12, 13, 12720), (12, 13, 300), (99, 0, 0), (99, 0, 0), (99, 0, 0), (99, 0, 0), (99, 0, 0), (99, 0, 0), (99, 0, 0), (99, 0, 0), (99, 0, 0), (99, 0, 0), (99, 0, 0), (99, 0, 0), (12, 13, 160), (99, 0, 0), (99, 0, 0), (99, 0, 0), (12, 14, 330), (12, 15, 330), (99, 0, 0), (99, 0, 0), (12, 13, 5), (12, 13, 40), (99, 0, 0), (12, 13, 40), (12, 15, 40), (12, 13, 5), (12, 13, 5)]]
def ftp (f : Nat) : Nat × Nat × Nat := (((ftpl[f / 32]?).getD [])[f % 32]?).getD (99, 0, 0)
def rItl : List (List (Int × Int)) := [[(0, 40), (-2147483648, 2147483647), (-2147483648, 2147483647), (-2147483648, 2147483647), (-2147483648, 2147483647), (-2147483648, 2147483647), (-2147483648, 2147483647), (-2147483648, 2147483647), (-2147483648, 2147483647), (-2147483648, 2147483647), (0, 5), (-2147483648, 2147483647), (-2147483648, 2147483647), (-2147483648, 2147483647), (-2147483648, 2147483647), (-2147483648, 2147483647)],
  [(0, 30), (-2147483648, 2147483647), (-2147483648, 2147483647)],
  [(0, 5), (0, 40), (-2147483648, 2147483647), (-2147483648, 2147483647), (-2147483648, 2147483647), (-2147483648, 2147483647), (-2147483648, 2147483647), (-2147483648, 2147483647), (-2147483648, 2147483647), (-2147483648, 2147483647), (-2147483648, 2147483647), (-2147483648, 2147483647), (-2147483648, 2147483647), (-2147483648, 2147483647), (-2147483648, 2147483647), (-2147483648, 2147483647), (-2147483648, 2147483647), (-2147483648, 2147483647), (-2147483648, 2147483647), (-2147483648, 2147483647)],
  [(0, 10), (-2147483648, 2147483647), (0, 30), (-2147483648, 2147483647), (-2147483648, 2147483647), (-2147483648, 2147483647), (-2147483648, 2147483647), (-2147483648, 2147483647)],
  [(-2147483648, 2147483647), (-2147483648, 2147483647), (-2147483648, 2147483647), (-2147483648, 2147483647), (0, 300), (-2147483648, 2147483647), (0, 40), (-2147483648, 2147483647), (-2147483648, 2147483647), (0, 1), (0, 1), (0, 1)],
  [(-2147483648, 2147483647), (-2147483648, 2147483647), (-2147483648, 2147483647), (-2147483648, 2147483647), (0, 40), (-2147483648, 2147483647), (-2147483648, 2147483647), (-2147483648, 2147483647)],
  [(-2147483648, 2147483647), (0, 300), (-2147483648, 2147483647), (0, 300), (-2147483648, 2147483647), (0, 300)],
  [(0, 200), (-2147483648, 2147483647), (-2147483648, 2147483647), (-2147483648, 2147483647), (-2147483648, 2147483647), (-2147483648, 2147483647), (-2147483648, 2147483647), (-2147483648, 2147483647), (-2147483648, 2147483647), (-2147483648, 2147483647), (-2147483648, 2147483647), (-2147483648, 2147483647), (-2147483648, 2147483647), (0, 20), (-2147483648, 2147483647)],
  [(0, 20), (-2147483648, 2147483647), (-2147483648, 2147483647), (-2147483648, 2147483647)],
  [(-2147483648, 2147483647), (-2147483648, 2147483647), (-2147483648, 2147483647)],
  [(0, 600), (-2147483648, 2147483647), (-2147483648, 2147483647), (-2147483648, 2147483647), (-2147483648, 2147483647), (-2147483648, 2147483647), (-2147483648, 2147483647), (-2147483648, 2147483647), (-2147483648, 2147483647), (-2147483648, 2147483647), (-2147483648, 2147483647), (-2147483648, 2147483647), (-2147483648, 2147483647)],
  [(-2147483648, 2147483647), (-2147483648, 2147483647), (-2147483648, 2147483647), (-2147483648, 2147483647), (-2147483648, 2147483647)],
  [(-2147483648, 2147483647), (-2147483648, 2147483647), (-2147483648, 2147483647), (-2147483648, 2147483647), (-2147483648, 2147483647), (-2147483648, 2147483647), (-2147483648, 2147483647), (-2147483648, 2147483647), (-2147483648, 2147483647), (-2147483648, 2147483647), (-2147483648, 2147483647), (-2147483648, 2147483647), (-2147483648, 2147483647), (-2147483648, 2147483647), (-2147483648, 2147483647), (-2147483648, 2147483647), (-2147483648, 2147483647), (-2147483648, 2147483647), (-2147483648, 2147483647), (0, 1), (-2147483648, 2147483647), (-2147483648, 2147483647), (-2147483648, 2147483647), (-2147483648, 2147483647), (-2147483648, 2147483647), (-2147483648, 2147483647), (-2147483648, 2147483647), (-2147483648, 2147483647), (-2147483648, 2147483647), (-2147483648, 2147483647), (-2147483648, 2147483647)]]
def rIt (f : Nat) : Int × Int := (((rItl[f / 32]?).getD [])[f % 32]?).getD (-2147483648, 2147483647)
def rAtl : List (List (Int × Int)) := [[(-2147483648, 2147483647), (0, 9), (-2147483648, 2147483647), (-2147483648, 2147483647), (-2147483648, 2147483647), (0, 300), (-2147483648, 2147483647), (-2147483648, 2147483647), (-2147483648, 2147483647), (-2147483648, 2147483647), (-2147483648, 2147483647), (-2147483648, 2147483647), (-2147483648, 2147483647), (-2147483648, 2147483647), (-2147483648, 2147483647), ((-2), 4)],
  [(-2147483648, 2147483647), (0, 39), (-2147483648, 2147483647)],
  [(-2147483648, 2147483647), (-2147483648, 2147483647), (-2147483648, 2147483647), (-2147483648, 2147483647), (-2147483648, 2147483647), (0, 4), (-2147483648, 2147483647), (0, 31), (0, 31), (-2147483648, 2147483647), (-2147483648, 2147483647), (-2147483648, 2147483647), (-2147483648, 2147483647), (-2147483648, 2147483647), (-2147483648, 2147483647), ((-1), 39), ((-1), 39), (-2147483648, 2147483647), (-2147483648, 2147483647), (0, 20)],
  [(-2147483648, 2147483647), (-2147483648, 2147483647), (-2147483648, 2147483647), (0, 9), (-2147483648, 2147483647), (-2147483648, 2147483647), (-2147483648, 2147483647), (-2147483648, 2147483647)],
  [(-2147483648, 2147483647), (-2147483648, 2147483647), (-2147483648, 2147483647), (-2147483648, 2147483647), (-2147483648, 2147483647), (-2147483648, 2147483647), (-2147483648, 2147483647), (-2147483648, 2147483647), (-2147483648, 2147483647), (-2147483648, 2147483647), (-2147483648, 2147483647), (-2147483648, 2147483647)],
  [(-2147483648, 2147483647), (-2147483648, 2147483647), (0, 4), (0, 39), (-2147483648, 2147483647), (-2147483648, 2147483647), (-2147483648, 2147483647), (-2147483648, 2147483647)],
  [(-2147483648, 2147483647), (-2147483648, 2147483647), (-2147483648, 2147483647), (-2147483648, 2147483647), (-2147483648, 2147483647), (-2147483648, 2147483647)],
  [(-2147483648, 2147483647), (-2147483648, 2147483647), (-2147483648, 2147483647), (-2147483648, 2147483647), (-2147483648, 2147483647), (-2147483648, 2147483647), (-2147483648, 2147483647), (-2147483648, 2147483647), (-2147483648, 2147483647), (-2147483648, 2147483647), (-2147483648, 2147483647), (-2147483648, 2147483647), (-2147483648, 2147483647), (-2147483648, 2147483647), (-2147483648, 2147483647)],
  [(-2147483648, 2147483647), (-2147483648, 2147483647), (0, 300), (-2147483648, 2147483647)],
  [(-2147483648, 2147483647), (-2147483648, 2147483647), (-2147483648, 2147483647)],
  [(-2147483648, 2147483647), (-2147483648, 2147483647), (-2147483648, 2147483647), (-2147483648, 2147483647), (-2147483648, 2147483647), ((-1), 39), (-2147483648, 2147483647), (-2147483648, 2147483647), (-2147483648, 2147483647), (-2147483648, 2147483647), (-2147483648, 2147483647), (0, 39), (-2147483648, 2147483647)],
  [(-2147483648, 2147483647), (-2147483648, 2147483647), (-2147483648, 2147483647), (-2147483648, 2147483647), (-2147483648, 2147483647)],
  [(-2147483648, 2147483647), (-2147483648, 2147483647), (-2147483648, 2147483647), (-2147483648, 2147483647), (-2147483648, 2147483647), (-2147483648, 2147483647), (-2147483648, 2147483647), (-2147483648, 2147483647), (-2147483648, 2147483647), (-2147483648, 2147483647), (-2147483648, 2147483647), (-2147483648, 2147483647), (-2147483648, 2147483647), (-2147483648, 2147483647), (-2147483648, 2147483647), (-2147483648, 2147483647), (-2147483648, 2147483647), (-2147483648, 2147483647), (-2147483648, 2147483647), (-2147483648, 2147483647), (-2147483648, 2147483647), (0, 1), (-2147483648, 2147483647), (-2147483648, 2147483647), (-2147483648, 2147483647), (-2147483648, 2147483647), (-2147483648, 2147483647), (-2147483648, 2147483647), (0, 1), (-2147483648, 2147483647), (-2147483648, 2147483647)]]
def rAt (f : Nat) : Int × Int := (((rAtl[f / 32]?).getD [])[f % 32]?).getD (-2147483648, 2147483647)
abbrev cfl : List Nat := [64, 65, 224, 10, 0, 32, 320, 193, 197, 194, 129, 132, 134, 256, 96, 98, 234, 235, 236, 237, 238, 321, 322, 323, 324]
abbrev rtl : List Nat := [225, 226, 227, 228, 229, 230, 231, 232, 233, 69, 70, 73, 74, 75, 79, 288, 33, 5, 99, 100, 101, 257, 258, 259, 1, 2, 3, 4, 9, 11, 71, 72, 77, 325]
abbrev jtl : List Nat := [34, 68]
def SH (σ : pq_S) (tg : Nat → Nat) : Prop := ∀ a ∈ σ.1, ∀ f, (ftp f).1 = σ.2.1 a → ∃ w, σ.2.2.1 f a = some w ∧ w ∈ σ.1 ∧ σ.2.1 w = (ftp f).2.1 ∧ (13 ≤ (ftp f).2.1 → σ.2.2.2 w = (ftp f).2.2 ∧ tg w = f)
theorem sh_o {σ : pq_S} {tg : Nat → Nat} (h : SH σ tg) (f : Nat) {ci kd ln a : Nat} (e : ftp f = (ci, kd, ln)) (hL : a ∈ σ.1) (hK : σ.2.1 a = ci) : ∃ w, σ.2.2.1 f a = some w ∧ w ∈ σ.1 ∧ σ.2.1 w = kd := by
  obtain ⟨w, h1, h2, h3, -⟩ := h a hL f (by rw [e]; exact hK.symm)
  exact ⟨w, h1, h2, by rw [h3, e]⟩
theorem sh_a {σ : pq_S} {tg : Nat → Nat} (h : SH σ tg) (f : Nat) {ci kd len a : Nat} (e : ftp f = (ci, kd, len)) (h13 : 13 ≤ kd) (hL : a ∈ σ.1) (hK : σ.2.1 a = ci) : ∃ w, σ.2.2.1 f a = some w ∧ w ∈ σ.1 ∧ σ.2.1 w = kd ∧ σ.2.2.2 w = len ∧ tg w = f := by
  obtain ⟨w, h1, h2, h3, h4⟩ := h a hL f (by rw [e]; exact hK.symm)
  have h5 := h4 (by rw [e]; exact h13)
  rw [e] at h5
  exact ⟨w, h1, h2, by rw [h3, e], h5.1, h5.2⟩
def TX (σ : pq_S) (I ri : Nat → Nat → Int32) : Prop := ∀ w ∈ σ.1, σ.2.1 w = 8 → ∀ q, σ.2.2.1 258 w = some q → ∀ c : Nat, (c : Int) < (I 256 w).toInt → (ri q c).toInt ≤ 299
def GS (tg : Nat → Nat) (σ : pq_S) (I ri : Nat → Nat → Int32) (rq : Nat → Nat → Option Nat) : Prop := (∀ f a, rg (I f a) (rIt f).1 (rIt f).2) ∧ (∀ q j, rg (ri q j) (rAt (tg q)).1 (rAt (tg q)).2) ∧ (∀ q j w, rq q j = some w → w ∈ σ.1 ∧ σ.2.1 w = 8) ∧ TX σ I ri
def GX (X : List Nat) (tg : Nat → Nat) (σ : pq_S) (I0 r0 : Nat → Nat → Int32) (j0 : Nat → Nat → Int64) (I ri : Nat → Nat → Int32) (rj : Nat → Nat → Int64) (rq : Nat → Nat → Option Nat) : Prop := GS tg σ I ri rq ∧ (∀ f, f ∈ cfl → f ∉ X → I f = I0 f) ∧ (∀ t, t ∈ rtl → 1000 + t ∉ X → ∀ q, tg q = t → ri q = r0 q) ∧ ∀ t, t ∈ jtl → 1000 + t ∉ X → ∀ q, tg q = t → rj q = j0 q
section GXS
variable {X Y : List Nat} {tg : Nat → Nat} {σ : pq_S} {I0 r0 I I1 ri r1 : Nat → Nat → Int32} {j0 rj j1 : Nat → Nat → Int64} {rq q1 : Nat → Nat → Option Nat}
theorem GX.rI (h : GX X tg σ I0 r0 j0 I ri rj rq) (f : Nat) {lo hi : Int} {a : Nat} (e : rIt f = (lo, hi)) : rg (I f a) lo hi := by
  have h1 := h.1.1 f a
  rw [e] at h1
  exact h1
theorem GX.rR (h : GX X tg σ I0 r0 j0 I ri rj rq) {q j t : Nat} {lo hi : Int} (ht : tg q = t) (e : rAt t = (lo, hi)) : rg (ri q j) lo hi := by
  have h1 := h.1.2.1 q j
  rw [ht, e] at h1
  exact h1
theorem GX.rQ (h : GX X tg σ I0 r0 j0 I ri rj rq) {q j w : Nat} (e : rq q j = some w) : w ∈ σ.1 ∧ σ.2.1 w = 8 := h.1.2.2.1 q j w e
theorem GX.wI (h : GX X tg σ I0 r0 j0 I ri rj rq) (f : Nat) {lo hi : Int} {a : Nat} {v : Int32} (e : rIt f = (lo, hi)) (e1 : I1 = pq_u I f a v) (hv : rg v lo hi) (hf : (f ∉ cfl ∨ f ∈ X) ∧ f ≠ 256) : GX X tg σ I0 r0 j0 I1 ri rj rq := by
  subst e1
  refine ⟨⟨fun g b => ?_, h.1.2.1, h.1.2.2.1, ?_⟩, fun g hg hx => ?_, h.2.2⟩
  · by_cases hgf : g = f
    · subst hgf
      by_cases hb : b = a
      · subst hb
        rw [pq_us, e]
        exact hv
      · rw [pq_ua _ _ _ _ hb]
        exact h.1.1 g b
    · rw [pq_uf _ _ _ hgf]
      exact h.1.1 g b
  · intro w hw hk q hq c hc
    rw [pq_uf _ _ _ (Ne.symm hf.2)] at hc
    exact h.1.2.2.2 w hw hk q hq c hc
  · have hgf : g ≠ f := fun q => by
      subst q
      rcases hf.1 with z | z
      · exact z hg
      · exact hx z
    rw [pq_uf _ _ _ hgf]
    exact h.2.1 g hg hx
theorem GX.wR (h : GX X tg σ I0 r0 j0 I ri rj rq) (hSH : SH σ tg) {q t : Nat} {i v : Int32} {lo hi : Int} (ht : tg q = t) (e : rAt t = (lo, hi)) (e1 : r1 = va_up ri q (upd (ri q) i.toNatClampNeg v)) (hv : rg v lo hi) (hn : t ≠ 258 ∧ (t ∉ rtl ∨ 1000 + t ∈ X)) : GX X tg σ I0 r0 j0 I r1 rj rq := by
  subst e1
  refine ⟨⟨h.1.1, fun p j => ?_, h.1.2.2.1, ?_⟩, h.2.1, fun t2 ht2 hx q2 hq2 => ?_, h.2.2.2⟩
  · by_cases hp : p = q
    · subst hp
      rw [va_up_self]
      unfold upd
      split
      · rw [ht, e]
        exact hv
      · exact h.1.2.1 p j
    · rw [va_up_ne _ _ hp]
      exact h.1.2.1 p j
  · intro w hw hk z hz c hc
    have hne : z ≠ q := fun y => by
      obtain ⟨z2, e2, -, -, -, e6⟩ := sh_a hSH 258 (ci := 8) (kd := 13) (len := 21) rfl (by decide) hw hk
      rw [hz] at e2
      have e3 := Option.some.inj e2
      subst e3
      rw [y, ht] at e6
      exact hn.1 e6
    rw [va_up_ne _ _ hne]
    exact h.1.2.2.2 w hw hk z hz c hc
  · have hne : q2 ≠ q := fun y => by
      rw [y, ht] at hq2
      rw [← hq2] at ht2 hx
      rcases hn.2 with z | z
      · exact z ht2
      · exact hx z
    rw [va_up_ne _ _ hne]
    exact h.2.2.1 t2 ht2 hx q2 hq2
theorem GX.cR (h : GX X tg σ I0 r0 j0 I ri rj rq) (hSH : SH σ tg) {p q s t n : Nat} {i : Int32} {lo hi lo2 hi2 : Int} (hs : tg p = s) (e : rAt s = (lo, hi)) (ht : tg q = t) (e2 : rAt t = (lo2, hi2)) (e1 : r1 = va_up ri q (va_cpy (ri p) (ri q) i.toNatClampNeg 0 n)) (hn : ((lo2 ≤ lo ∧ hi ≤ hi2) ∧ t ≠ 258) ∧ (t ∉ rtl ∨ 1000 + t ∈ X)) : GX X tg σ I0 r0 j0 I r1 rj rq := by
  subst e1
  refine ⟨⟨h.1.1, fun b j => ?_, h.1.2.2.1, ?_⟩, h.2.1, fun t2 ht2 hx q2 hq2 => ?_, h.2.2.2⟩
  · by_cases hb : b = q
    · subst hb
      rw [va_up_self]
      unfold va_cpy
      split
      · rw [ht, e2]
        exact rg_w (h.rR hs e) hn.1.1
      · exact h.1.2.1 b j
    · rw [va_up_ne _ _ hb]
      exact h.1.2.1 b j
  · intro w hw hk z hz c hc
    have hne : z ≠ q := fun y => by
      obtain ⟨z2, e2, -, -, -, e6⟩ := sh_a hSH 258 (ci := 8) (kd := 13) (len := 21) rfl (by decide) hw hk
      rw [hz] at e2
      have e3 := Option.some.inj e2
      subst e3
      rw [y, ht] at e6
      exact hn.1.2 e6
    rw [va_up_ne _ _ hne]
    exact h.1.2.2.2 w hw hk z hz c hc
  · have hne : q2 ≠ q := fun y => by
      rw [y, ht] at hq2
      rw [← hq2] at ht2 hx
      rcases hn.2 with z | z
      · exact z ht2
      · exact hx z
    rw [va_up_ne _ _ hne]
    exact h.2.2.1 t2 ht2 hx q2 hq2
theorem GX.wJ (h : GX X tg σ I0 r0 j0 I ri rj rq) {q t : Nat} {f : Nat → Int64} (ht : tg q = t) (e1 : j1 = va_up rj q f) (hn : t ∉ jtl ∨ 1000 + t ∈ X) : GX X tg σ I0 r0 j0 I ri j1 rq := by
  subst e1
  refine ⟨h.1, h.2.1, h.2.2.1, fun t2 ht2 hx q2 hq2 => ?_⟩
  have hne : q2 ≠ q := fun y => by
    rw [y, ht] at hq2
    rw [← hq2] at ht2 hx
    rcases hn with z | z
    · exact z ht2
    · exact hx z
  rw [va_up_ne _ _ hne]
  exact h.2.2.2 t2 ht2 hx q2 hq2
theorem GX.wQ (h : GX X tg σ I0 r0 j0 I ri rj rq) {q j v : Nat} (hL : v ∈ σ.1) (hK : σ.2.1 v = 8) (e1 : q1 = va_up rq q (va_up (rq q) j (some v))) : GX X tg σ I0 r0 j0 I ri rj q1 := by
  subst e1
  refine ⟨⟨h.1.1, h.1.2.1, fun p k w hw => ?_, h.1.2.2.2⟩, h.2⟩
  unfold va_up at hw
  split at hw
  · next e =>
    subst e
    have hw : (if k = j then some v else rq p k) = some w := hw
    split at hw
    · cases hw; exact ⟨hL, hK⟩
    · exact h.1.2.2.1 _ k w hw
  · exact h.1.2.2.1 p k w hw
theorem GX.wQn (h : GX X tg σ I0 r0 j0 I ri rj rq) {q j : Nat} (e1 : q1 = va_up rq q (va_up (rq q) j none)) : GX X tg σ I0 r0 j0 I ri rj q1 := by
  subst e1
  refine ⟨⟨h.1.1, h.1.2.1, fun p k w hw => ?_, h.1.2.2.2⟩, h.2⟩
  unfold va_up at hw
  split at hw
  · next e =>
    subst e
    have hw : (if k = j then none else rq p k) = some w := hw
    split at hw
    · cases hw
    · exact h.1.2.2.1 _ k w hw
  · exact h.1.2.2.1 p k w hw
theorem GX.tr (h : GX X tg σ I0 r0 j0 I ri rj rq) (h1 : GX Y tg σ I ri rj I1 r1 j1 q1) (hs : ∀ f ∈ Y, f ∈ X) : GX X tg σ I0 r0 j0 I1 r1 j1 q1 := ⟨h1.1, fun f hf hx => (h1.2.1 f hf (fun q => hx (hs f q))).trans (h.2.1 f hf hx), fun t ht hx q hq => (h1.2.2.1 t ht (fun z => hx (hs _ z)) q hq).trans (h.2.2.1 t ht hx q hq), fun t ht hx q hq => (h1.2.2.2 t ht (fun z => hx (hs _ z)) q hq).trans (h.2.2.2 t ht hx q hq)⟩
theorem GX.tx (h : GX X tg σ I0 r0 j0 I ri rj rq) {w q : Nat} {c : Int32} (hL : w ∈ σ.1) (hK : σ.2.1 w = 8) (hR : σ.2.2.1 258 w = some q) (hT : tg q = 258) (h0 : 0 ≤ c.toInt) (h1 : c.toInt < (I 256 w).toInt) : rg (ri q c.toNatClampNeg) 0 299 := by
  have e2 : c.toInt.toNat = c.toNatClampNeg := rfl
  exact ⟨(h.rR (lo := 0) (hi := 300) hT rfl).1, h.1.2.2.2 w hL hK q hR _ (by omega)⟩
end GXS
theorem q_gen {p : Program} {l : Launch} {e : Env} {R : Room} {s : State} {m : MethodId} {args : Array Value} {below : List Frame} {meth : Method} {c : Code} {H : Heap} {locs : List Loc} {cells slots : Nat} {Q : State → Prop} {g : JFrame} (k : ∀ Q' : State → Prop, Q' = Q → W p l e R s m args below meth c H locs cells slots Q' g) : W p l e R s m args below meth c H locs cells slots Q g := k Q rfl
theorem min_le (x y : Int32) : (if y < x then y else x).toInt ≤ x.toInt ∧ (if y < x then y else x).toInt ≤ y.toInt := by
  split
  · next q => rw [Int32.lt_iff_toInt_lt] at q; exact ⟨by omega, by omega⟩
  · next q => have q := Int32.le_iff_toInt_le.mp (Int32.not_lt.mp q); exact ⟨by omega, by omega⟩
section PQR
variable {p : Program} {l : Launch} {e : Env} {R : Room} {s : State} {m : MethodId} {args : Array Value} {below : List Frame} {meth : Method} {c : Code} {H : Heap} {locs : List Loc} {cells slots : Nat} {Q : State → Prop}
variable {cc : ByteArray} {pc : Nat} {ls : Array Slot} {rest : List Value} {D : va_G} {A : Nat → Prop} {a : Nat} {t : pq_T} {σ : pq_S} {H0 : Heap}
variable {I : Nat → Nat → Int32} {J : Nat → Nat → Int64} {ri : Nat → Nat → Int32} {rj : Nat → Nat → Int64} {rq : Nat → Nat → Option Nat}
theorem pq_Ec {t : pq_T} {σ : pq_S} {I : Nat → Nat → Int32} {J : Nat → Nat → Int64} {ri : Nat → Nat → Int32} {rj : Nat → Nat → Int64} {rq : Nat → Nat → Option Nat} {a b : Nat} {v : Nat → Option Nat} (h : b ≠ a) : pq_E t σ (I, J, ri, rj, va_up rq a v) b = pq_E t σ (I, J, ri, rj, rq) b := by
  unfold pq_E
  split <;> simp only [va_up_ne _ _ h]
theorem pl_q (hx : p.tables.exec = Jvm.exec) (hb : c.code = cc) (hK : va_K D vwCl (pq_ty t) s) (hP : va_P D vwCl (pq_P t σ (I, J, ri, rj, rq)) H) (hL : a ∈ σ.1) (hk : σ.2.1 a = 16) {n : Nat} (hn : σ.2.2.2 a = n) {i : Int32} (hin : vp_in i n) (hdg : decode cc pc = .ok (.aaload, 1))
    (kk : W p l e R s m args below meth c H locs cells slots Q (F0 m (pc + 1) ls (va_rf (rq a i.toNatClampNeg) :: rest))) : W p l e R s m args below meth c H locs cells slots Q (F0 m pc ls (.int i :: .ref a :: rest)) := by
  subst hn
  obtain ⟨q, hq⟩ := pq_in (t := t) (μ := (I, J, ri, rj, rq)) hL
  rw [pq_oQ hk] at hq
  exact va_aldq hx hb hK hP q 3 hq rfl hin hdg kk
theorem pt_q (hx : p.tables.exec = Jvm.exec) (hb : c.code = cc) (hK : va_K D vwCl (pq_ty t) s) (hP : va_P D vwCl (pq_P t σ (I, J, ri, rj, rq)) H) (hD : va_D A (pq_P t σ (I, J, ri, rj, rq))) (hS : va_S A H0 H locs) (hL : a ∈ σ.1) (hk : σ.2.1 a = 16) {n v : Nat} (hn : σ.2.2.2 a = n) (hLv : v ∈ σ.1) (hkv : σ.2.1 v = 8) {i : Int32} (hin : vp_in i n) (hdg : decode cc pc = .ok (.aastore, 1))
    (kk : ∀ (q1 : Nat → Nat → Option Nat) (H1 : Heap) (locs1 : List Loc), q1 = va_up rq a (va_up (rq a) i.toNatClampNeg (some v)) → va_P D vwCl (pq_P t σ (I, J, ri, rj, q1)) H1 → va_D A (pq_P t σ (I, J, ri, rj, q1)) → va_S A H0 H1 locs1 → W p l e R s m args below meth c H1 locs1 cells slots Q (F0 m (pc + 1) ls rest)) : W p l e R s m args below meth c H locs cells slots Q (F0 m pc ls (.ref v :: .int i :: .ref a :: rest)) := by
  subst hn
  obtain ⟨q, hq⟩ := pq_in (t := t) (μ := (I, J, ri, rj, rq)) hL
  obtain ⟨qv, hqv⟩ := pq_in (t := t) (μ := (I, J, ri, rj, rq)) hLv
  have hq2 := hq
  rw [pq_oQ hk] at hq2
  rw [pq_o (by decide) hkv] at hqv
  have he : (pq_P t σ (I, J, ri, rj, rq)).set q (a, .inl (t.2.2.2, σ.2.2.2 a, .inr (.inr (.inr (.inr (va_up (rq a) i.toNatClampNeg (some v))))))) = pq_P t σ (I, J, ri, rj, va_up rq a (va_up (rq a) i.toNatClampNeg (some v))) := pq_set hD hL hq (by rw [pq_oQ hk]; simp only [va_up_self]) (fun b hb => pq_Ec hb)
  refine va_astq hx hb hK hP hD hS q 3 qv 8 hq2 rfl hqv rfl hin hdg (fun H1 locs1 hP1 hD1 hS1 => ?_)
  exact kk _ H1 locs1 rfl (he ▸ hP1) (he ▸ hD1) hS1
theorem pt_qn (hx : p.tables.exec = Jvm.exec) (hb : c.code = cc) (hK : va_K D vwCl (pq_ty t) s) (hP : va_P D vwCl (pq_P t σ (I, J, ri, rj, rq)) H) (hD : va_D A (pq_P t σ (I, J, ri, rj, rq))) (hS : va_S A H0 H locs) (hL : a ∈ σ.1) (hk : σ.2.1 a = 16) {n : Nat} (hn : σ.2.2.2 a = n) {i : Int32} (hin : vp_in i n) (hdg : decode cc pc = .ok (.aastore, 1))
    (kk : ∀ (q1 : Nat → Nat → Option Nat) (H1 : Heap) (locs1 : List Loc), q1 = va_up rq a (va_up (rq a) i.toNatClampNeg none) → va_P D vwCl (pq_P t σ (I, J, ri, rj, q1)) H1 → va_D A (pq_P t σ (I, J, ri, rj, q1)) → va_S A H0 H1 locs1 → W p l e R s m args below meth c H1 locs1 cells slots Q (F0 m (pc + 1) ls rest)) : W p l e R s m args below meth c H locs cells slots Q (F0 m pc ls (.null :: .int i :: .ref a :: rest)) := by
  subst hn
  obtain ⟨q, hq⟩ := pq_in (t := t) (μ := (I, J, ri, rj, rq)) hL
  have hq2 := hq
  rw [pq_oQ hk] at hq2
  have he : (pq_P t σ (I, J, ri, rj, rq)).set q (a, .inl (t.2.2.2, σ.2.2.2 a, .inr (.inr (.inr (.inr (va_up (rq a) i.toNatClampNeg none)))))) = pq_P t σ (I, J, ri, rj, va_up rq a (va_up (rq a) i.toNatClampNeg none)) := pq_set hD hL hq (by rw [pq_oQ hk]; simp only [va_up_self]) (fun b hb => pq_Ec hb)
  refine va_astqN hx hb hK hP hD hS q 3 hq2 rfl hin hdg (fun H1 locs1 hP1 hD1 hS1 => ?_)
  exact kk _ H1 locs1 rfl (he ▸ hP1) (he ▸ hD1) hS1
end PQR
theorem nl_0 {s : State} (h : pq_N s) : va_Nw (.methodLinkNest RX7 55 yX11_fill "RingsUnder") s := h.1 (RX7, 55, yX11_fill) (List.mem_of_getElem? (i := 0) rfl)
theorem nl_1 {s : State} (h : pq_N s) : va_Nw (.methodLinkNest RX2 45 yX9_init "RingsUnder") s := h.1 (RX2, 45, yX9_init) (List.mem_of_getElem? (i := 1) rfl)
theorem nl_2 {s : State} (h : pq_N s) : va_Nw (.methodLinkNest RX2 65 yX11_fill "RingsUnder") s := h.1 (RX2, 65, yX11_fill) (List.mem_of_getElem? (i := 2) rfl)
theorem nl_3 {s : State} (h : pq_N s) : va_Nw (.methodLinkNest RX10 38 yX0_init "RingsUnder") s := h.1 (RX10, 38, yX0_init) (List.mem_of_getElem? (i := 3) rfl)
theorem nl_4 {s : State} (h : pq_N s) : va_Nw (.methodLinkNest RX10 45 yX3_init "RingsUnder") s := h.1 (RX10, 45, yX3_init) (List.mem_of_getElem? (i := 4) rfl)
theorem nl_5 {s : State} (h : pq_N s) : va_Nw (.methodLinkNest RX10 52 yX1_init "RingsUnder") s := h.1 (RX10, 52, yX1_init) (List.mem_of_getElem? (i := 5) rfl)
theorem nl_6 {s : State} (h : pq_N s) : va_Nw (.methodLinkNest RX10 63 yX11_fill "RingsUnder") s := h.1 (RX10, 63, yX11_fill) (List.mem_of_getElem? (i := 6) rfl)
theorem nl_7 {s : State} (h : pq_N s) : va_Nw (.methodLinkNest RX11 24 yX5_init "RingsUnder") s := h.1 (RX11, 24, yX5_init) (List.mem_of_getElem? (i := 7) rfl)
theorem nl_8 {s : State} (h : pq_N s) : va_Nw (.methodLinkNest RX11 31 yX4_init "RingsUnder") s := h.1 (RX11, 31, yX4_init) (List.mem_of_getElem? (i := 8) rfl)
theorem nl_9 {s : State} (h : pq_N s) : va_Nw (.methodLinkNest RX4 11 yX6_init "RingsUnder") s := h.1 (RX4, 11, yX6_init) (List.mem_of_getElem? (i := 9) rfl)
theorem nl_10 {s : State} (h : pq_N s) : va_Nw (.methodLinkNest RX4 27 yX8_init "RingsUnder") s := h.1 (RX4, 27, yX8_init) (List.mem_of_getElem? (i := 10) rfl)
theorem nl_11 {s : State} (h : pq_N s) : va_Nw (.methodLinkNest RX2 101 yX11_hasBit "RingsUnder") s := h.1 (RX2, 101, yX11_hasBit) (List.mem_of_getElem? (i := 11) rfl)
theorem nl_12 {s : State} (h : pq_N s) : va_Nw (.methodLinkNest RX3 65 yX11_hasBit "RingsUnder") s := h.1 (RX3, 65, yX11_hasBit) (List.mem_of_getElem? (i := 12) rfl)
theorem nl_13 {s : State} (h : pq_N s) : va_Nw (.methodLinkNest RX0 73 yX11_hasBit "RingsUnder") s := h.1 (RX0, 73, yX11_hasBit) (List.mem_of_getElem? (i := 13) rfl)
theorem nl_14 {s : State} (h : pq_N s) : va_Nw (.methodLinkNest RX9 29 yX11_hasBit "RingsUnder") s := h.1 (RX9, 29, yX11_hasBit) (List.mem_of_getElem? (i := 14) rfl)
theorem nl_15 {s : State} (h : pq_N s) : va_Nw (.methodLinkNest RX0 58 yX11_copy "RingsUnder") s := h.1 (RX0, 58, yX11_copy) (List.mem_of_getElem? (i := 15) rfl)
theorem nl_16 {s : State} (h : pq_N s) : va_Nw (.methodLinkNest RX0 113 yX11_fill "RingsUnder") s := h.1 (RX0, 113, yX11_fill) (List.mem_of_getElem? (i := 16) rfl)
theorem nl_17 {s : State} (h : pq_N s) : va_Nw (.methodLinkNest RX10 76 yX11_copy "RingsUnder") s := h.1 (RX10, 76, yX11_copy) (List.mem_of_getElem? (i := 17) rfl)
theorem nl_18 {s : State} (h : pq_N s) : va_Nw (.methodLinkNest RX7 62 yX11_copy "RingsUnder") s := h.1 (RX7, 62, yX11_copy) (List.mem_of_getElem? (i := 18) rfl)
theorem nl_19 {s : State} (h : pq_N s) : va_Nw (.methodLinkNest RX2 89 yX11_copy "RingsUnder") s := h.1 (RX2, 89, yX11_copy) (List.mem_of_getElem? (i := 19) rfl)
theorem nl_20 {s : State} (h : pq_N s) : va_Nw (.methodLinkNest RX9 21 yX11_copy "RingsUnder") s := h.1 (RX9, 21, yX11_copy) (List.mem_of_getElem? (i := 20) rfl)
theorem nl_21 {s : State} (h : pq_N s) : va_Nw (.methodLinkNest RX3 40 yX11_copy "RingsUnder") s := h.1 (RX3, 40, yX11_copy) (List.mem_of_getElem? (i := 21) rfl)
theorem nl_22 {s : State} (h : pq_N s) : va_Nw (.methodLinkNest RX1 23 yX11_copy "RingsUnder") s := h.1 (RX1, 23, yX11_copy) (List.mem_of_getElem? (i := 22) rfl)
theorem nl_23 {s : State} (h : pq_N s) : va_Nw (.methodLinkNest RX5 60 yX11_copy "RingsUnder") s := h.1 (RX5, 60, yX11_copy) (List.mem_of_getElem? (i := 23) rfl)
theorem nl_24 {s : State} (h : pq_N s) : va_Nw (.methodLinkNest RX10 226 yX11_hasBit "RingsUnder") s := h.1 (RX10, 226, yX11_hasBit) (List.mem_of_getElem? (i := 24) rfl)
theorem nl_25 {s : State} (h : pq_N s) : va_Nw (.methodLinkNest RX1 33 yX11_hasBit "RingsUnder") s := h.1 (RX1, 33, yX11_hasBit) (List.mem_of_getElem? (i := 25) rfl)
