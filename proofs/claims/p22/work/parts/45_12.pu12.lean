/-! ===== pure: the calls that lay SEAS and LAND, on both sides ===== -/
section PU12
variable {I : Nat → Int32} {J : Nat → Int64} {ri : Nat → Nat → Int32} {rj : Nat → Nat → Int64} {rq : Nat → Nat → Option Nat}
variable {U : Nat → Int32} {V : Nat → Int64} {si : Nat → Nat → Int32} {sj : Nat → Nat → Int64} {sq : Nat → Nat → Option Nat}
variable {A A1 : Nat → Int32} {r1 : Nat → Nat → Int32} {I1 : Nat → Int32}
/-- the same answer, and SEAS and LAND stand alike -/
def CV (b c : Int32 × vM) : Prop := b.1 = c.1 ∧ RSL b.2.1 b.2.2.2.1 (c.2.2.2.1 384)
theorem cv_no {v : Int32} (h : RSL I ri (si 384)) : CV (v, I, J, ri, rj, rq) (v, U, V, si, sj, sq) := ⟨rfl, h⟩
/-- what RSL hangs on -/
abbrev rlz : List Nat := [0, 1, 2, 3, 13, 14, 15, 500, 501, 502, 503, 504, 100, 101, 102, 103, 300, 301, 304, 305, 306]
theorem zn_t {j k : Nat} (hj : j < 12) (hk : k < 5) : zn (20 + 5 * j + k) = 100 + k := by
  unfold zn
  rw [if_neg (by omega), if_pos (by omega)]
  omega
theorem zn_c {c k : Nat} (hc : c < 40) (hk : k < 16) : zn (100 + 16 * c + k) = 300 + k := by
  unfold zn
  rw [if_neg (by omega), if_neg (by omega), if_neg (by omega), if_neg (by omega), if_pos (by omega)]
  omega
theorem zn_l {o k : Nat} (hk : k < 200) (ho : o < 5) : zn (1220 + o + 5 * k) = 500 + o := by
  unfold zn
  rw [if_neg (by omega), if_neg (by omega), if_neg (by omega), if_neg (by omega), if_neg (by omega), if_neg (by omega), if_pos (by omega)]
  omega
theorem RL_cg (h : RSL I ri A) (hI : ∀ f, f ∈ [64, 65, 224, 234, 235, 236, 320] → I1 f = I f) (h2 : ∀ t, t ∈ [225, 226, 227, 228] → ∀ j, j < 200 → r1 t j = ri t j) (hT : ∀ t, t ∈ [229, 230, 231, 232] → ∀ j, j < 12 → r1 t j = ri t j) (h4 : ∀ t, t ∈ [69, 70, 73, 74, 75, 79] → ∀ j, j < 40 → r1 t j = ri t j) (hA : ∀ i, zn i ∈ rlz → A1 i = A i) (hM : RMX A1) : RSL I1 r1 A1 := by
  obtain ⟨⟨⟨m0, m6⟩, ⟨c0, c4⟩, ⟨l0, l2⟩⟩, _, ⟨e0, e1, e2, e3⟩, hlv, ⟨htb, hb, hg, hd⟩, hld, ⟨hn, hn2⟩⟩ := h
  have z65 := clampE (I 65)
  have z224 := clampE (I 224)
  have aT : ∀ j k, j < 12 → k < 4 → A1 (20 + 5 * j + k) = A (20 + 5 * j + k) := fun j k hj hk => hA _ (by rw [zn_t hj (by omega)]; exact (by decide : ∀ k, k < 4 → 100 + k ∈ rlz) k hk)
  have aC : ∀ c k, c < 40 → k ∈ [0, 1, 4, 5, 6] → A1 (100 + 16 * c + k) = A (100 + 16 * c + k) := fun c k hc hk => hA _ (by rw [zn_c hc ((by decide : ∀ k, k ∈ [0, 1, 4, 5, 6] → k < 16) k hk)]; exact (by decide : ∀ k, k ∈ [0, 1, 4, 5, 6] → 300 + k ∈ rlz) k hk)
  have aL : ∀ o k, k < 200 → o < 5 → A5 A1 o k = A5 A o k := fun o k hk ho => hA (1220 + o + 5 * k) (by rw [zn_l hk ho]; exact (by decide : ∀ o, o < 5 → 500 + o ∈ rlz) o ho)
  refine ⟨⟨?_, ?_, ?_⟩, hM, ⟨?_, ?_, ?_, ?_⟩, ?_, ⟨fun j hj => ?_, ?_, ?_, ?_⟩, fun c hc => ?_, ?_, fun j h1 h2 => ?_⟩
  · rw [hI 320 (by decide)]; exact ⟨m0, m6⟩
  · rw [hI 65 (by decide)]; exact ⟨c0, c4⟩
  · rw [hI 224 (by decide)]; exact ⟨l0, l2⟩
  · rw [hI 320 (by decide), hA 0 (by decide)]; exact e0
  · rw [hI 64 (by decide), hA 1 (by decide)]; exact e1
  · rw [hI 65 (by decide), hA 2 (by decide)]; exact e2
  · rw [hI 224 (by decide), hA 3 (by decide)]; exact e3
  · show LVR _ _ _ _ _ _ _ _ _ _
    rw [hI 224 (by decide)]
    intro k hk
    rw [aL 0 k (by omega) (by decide), aL 1 k (by omega) (by decide), aL 2 k (by omega) (by decide), aL 3 k (by omega) (by decide), aL 4 k (by omega) (by decide), h2 225 (by decide) k (by omega), h2 226 (by decide) k (by omega), h2 227 (by decide) k (by omega), h2 228 (by decide) k (by omega)]
    exact hlv k hk
  · rw [hT 229 (by decide) j hj, hT 230 (by decide) j hj, hT 231 (by decide) j hj, hT 232 (by decide) j hj, aT j 0 hj (by decide), aT j 1 hj (by decide), aT j 2 hj (by decide), aT j 3 hj (by decide)]
    exact htb j hj
  · rw [hI 234 (by decide), hA 13 (by decide)]; exact hb
  · rw [hI 235 (by decide), hA 14 (by decide)]; exact hg
  · rw [hI 236 (by decide), hA 15 (by decide)]; exact hd
  · have x0 := aC c 0 hc (by decide)
    rw [Nat.add_zero] at x0
    rw [x0, aC c 1 hc (by decide), aC c 4 hc (by decide), aC c 5 hc (by decide), aC c 6 hc (by decide), h4 69 (by decide) c hc, h4 70 (by decide) c hc, h4 73 (by decide) c hc, h4 74 (by decide) c hc, h4 75 (by decide) c hc]
    exact hld c hc
  · rw [hI 65 (by decide)]
    intro c hc
    rw [h4 79 (by decide) c (by omega)]
    rcases hn c hc with ⟨a, b⟩ | ⟨k, k1, k2, k3, k4, k5⟩
    · exact Or.inl ⟨a, fun k h1 h2 => by rw [h4 69 (by decide) k (by omega), h4 69 (by decide) c (by omega)]; exact b k h1 h2⟩
    · refine Or.inr ⟨k, k1, k2, ?_, fun i i1 i2 => ?_, k5⟩
      · rw [h4 69 (by decide) k (by omega), h4 69 (by decide) c (by omega)]; exact k3
      · rw [h4 69 (by decide) i (by omega), h4 69 (by decide) c (by omega)]; exact k4 i i1 i2
  · rw [hI 65 (by decide)] at h1
    rw [h4 79 (by decide) j h2]
    exact hn2 j h1 h2
/-- a LEVEL is told -/
theorem RL_tell {a0 a1 x f w : Int32} (h : RSL I ri A) (d : (I 224).toInt < 200) (r5 : r1 225 = upd (ri 225) (I 224).toNatClampNeg a0) (r6 : r1 226 = upd (ri 226) (I 224).toNatClampNeg a1) (r7 : r1 227 = upd (ri 227) (I 224).toNatClampNeg x) (r8 : r1 228 = upd (ri 228) (I 224).toNatClampNeg (I 320)) (ro : ∀ t, t ∉ [225, 226, 227, 228] → r1 t = ri t) (b0 : A1 (1220 + 5 * (I 224).toNatClampNeg) = a0) (b1 : A1 (1220 + 1 + 5 * (I 224).toNatClampNeg) = a1) (b2 : A1 (1220 + 2 + 5 * (I 224).toNatClampNeg) = f) (b3 : A1 (1220 + 3 + 5 * (I 224).toNatClampNeg) = w) (b4 : A1 (1220 + 4 + 5 * (I 224).toNatClampNeg) = A 0) (b5 : A1 3 = A 3 + 1) (bo : ∀ i, i ≠ 3 → (i < 1220 + 5 * (I 224).toNatClampNeg ∨ 1220 + 5 * (I 224).toNatClampNeg + 5 ≤ i) → A1 i = A i) (hx : (f.toInt = 0 ∧ x.toInt = -5000) ∨ (f.toInt = 1 ∧ x = w ∧ -1000 ≤ w.toInt ∧ w.toInt ≤ 5000)) : RSL (va_up I 224 (I 224 + 1)) r1 A1 := by
  obtain ⟨⟨hm, hc, ⟨l0, l2⟩⟩, hmx, ⟨e0, e1, e2, e3⟩, hlv, ⟨htb, hb, hg, hd⟩, hld, hnx⟩ := h
  have q : (I 224 + 1).toInt = (I 224).toInt + 1 := t1_one (by omega) (by omega)
  have z := clampE (I 224)
  have z1 := clampE (I 224 + 1)
  have N1 : (I 224 + 1).toNatClampNeg = (I 224).toNatClampNeg + 1 := by omega
  have o : ∀ {f : Nat}, f ≠ 224 → va_up I 224 (I 224 + 1) f = I f := fun hf => va_up_ne _ _ hf
  have s224 : va_up I 224 (I 224 + 1) 224 = I 224 + 1 := va_up_self _ _ _
  refine ⟨⟨?_, ?_, ?_⟩, ?_, ⟨?_, ?_, ?_, ?_⟩, ?_, ⟨?_, ?_, ?_, ?_⟩, ?_, ?_⟩
  · rw [o (show (320 : Nat) ≠ 224 by decide)]; exact hm
  · rw [o (show (65 : Nat) ≠ 224 by decide)]; exact hc
  · rw [s224, q]; exact ⟨by omega, by omega⟩
  · show (0 ≤ (A1 1).toInt ∧ (A1 1).toInt ≤ 5) ∧ (0 ≤ (A1 5).toInt ∧ (A1 5).toInt ≤ 40) ∧ (A1 4).toInt ≤ 5
    rw [bo 1 (by decide) (Or.inl (by omega)), bo 5 (by decide) (Or.inl (by omega)), bo 4 (by decide) (Or.inl (by omega))]; exact hmx
  · rw [o (show (320 : Nat) ≠ 224 by decide), bo 0 (by decide) (Or.inl (by omega))]; exact e0
  · rw [o (show (64 : Nat) ≠ 224 by decide), bo 1 (by decide) (Or.inl (by omega))]; exact e1
  · rw [o (show (65 : Nat) ≠ 224 by decide), bo 2 (by decide) (Or.inl (by omega))]; exact e2
  · rw [s224, b5, e3]
  · show LVR _ _ _ _ _ _ _ _ _ _
    rw [s224, N1, r5, r6, r7, r8]
    intro k hk
    by_cases w1 : k = (I 224).toNatClampNeg
    · subst w1
      rw [upd_s, upd_s, upd_s, upd_s]
      have c0 : A5 A1 0 (I 224).toNatClampNeg = a0 := b0
      have c1 : A5 A1 1 (I 224).toNatClampNeg = a1 := b1
      have c2 : A5 A1 2 (I 224).toNatClampNeg = f := b2
      have c3 : A5 A1 3 (I 224).toNatClampNeg = w := b3
      have c4 : A5 A1 4 (I 224).toNatClampNeg = A 0 := b4
      rw [c0, c1, c2, c3, c4]
      exact ⟨rfl, rfl, e0, hx⟩
    · have hk2 : k < (I 224).toNatClampNeg := by omega
      have a5 : ∀ o, o ≤ 4 → A5 A1 o k = A5 A o k := fun o ho => bo _ (by omega) (Or.inl (by omega))
      rw [upd_n _ _ w1, upd_n _ _ w1, upd_n _ _ w1, upd_n _ _ w1, a5 0 (by decide), a5 1 (by decide), a5 2 (by decide), a5 3 (by decide), a5 4 (by decide)]
      exact hlv k hk2
  · intro j hj
    rw [ro 229 (by decide), ro 230 (by decide), ro 231 (by decide), ro 232 (by decide), bo _ (by omega) (Or.inl (by omega)), bo _ (by omega) (Or.inl (by omega)), bo _ (by omega) (Or.inl (by omega)), bo _ (by omega) (Or.inl (by omega))]
    exact htb j hj
  · rw [o (show (234 : Nat) ≠ 224 by decide), bo 13 (by decide) (Or.inl (by omega))]; exact hb
  · rw [o (show (235 : Nat) ≠ 224 by decide), bo 14 (by decide) (Or.inl (by omega))]; exact hg
  · rw [o (show (236 : Nat) ≠ 224 by decide), bo 15 (by decide) (Or.inl (by omega))]; exact hd
  · intro c hc
    rw [bo _ (by omega) (Or.inl (by omega)), bo _ (by omega) (Or.inl (by omega)), bo _ (by omega) (Or.inl (by omega)), bo _ (by omega) (Or.inl (by omega)), bo _ (by omega) (Or.inl (by omega)), ro 69 (by decide), ro 70 (by decide), ro 73 (by decide), ro 74 (by decide), ro 75 (by decide)]
    exact hld c hc
  · show NXT _ _ _ ∧ _
    rw [o (show (65 : Nat) ≠ 224 by decide), ro 79 (by decide), ro 69 (by decide)]
    exact hnx
theorem level_CV {a0 a1 a2 a3 : Int32} (h : RSL I ri (si 384)) : CV (g_X11_level a0 a1 a2 a3 I J ri rj rq) (g_X12_level a0 a1 a2 a3 U V si sj sq) := by
  have h' := h
  obtain ⟨⟨hm, hc, ⟨l0, l2⟩⟩, hmx, ⟨e0, e1, e2, e3⟩, _⟩ := h'
  have k200 : (200 : Int32).toInt = 200 := by decide
  have k3 : (3 : Int32).toNatClampNeg = 3 := by decide
  have told : (a2 = 0 ∨ (-1000 ≤ a3.toInt ∧ a3.toInt ≤ 5000)) → CV (g_X11_level_K34 a0 a1 a2 a3 I J ri rj rq) (g_X12_level_K32 a0 a1 a2 a3 U V si sj sq) := fun hv => by
    rw [g_X11_level_K34_e, g_X12_level_K32_e]
    simp only [↓ap1_n, k3]
    by_cases d : I 224 < 200
    · have d1 := Int32.lt_iff_toInt_lt.mp d
      have d2 : ¬ si 384 3 = 200 := fun y => by rw [← e3] at y; rw [y] at d1; omega
      have i0 := ixl (c := si 384 3) (k := 1) 1 (by decide) (by decide) (by rw [← e3]; omega) (by rw [← e3]; omega)
      have i2 := ixl (c := si 384 3) (k := 2) 2 (by decide) (by decide) (by rw [← e3]; omega) (by rw [← e3]; omega)
      have i3 := ixl (c := si 384 3) (k := 3) 3 (by decide) (by decide) (by rw [← e3]; omega) (by rw [← e3]; omega)
      have i4 := ixl (c := si 384 3) (k := 4) 4 (by decide) (by decide) (by rw [← e3]; omega) (by rw [← e3]; omega)
      rw [← e3] at i0 i2 i3 i4 d2
      have c : ∀ x : Int32, g_X11_level_K73 a0 a1 I J ri rj rq x = (I 224 + 1, va_up I 224 (I 224 + 1), J, va_up (va_up (va_up (va_up ri 225 (upd (ri 225) (I 224).toNatClampNeg a0)) 226 (upd (ri 226) (I 224).toNatClampNeg a1)) 227 (upd (ri 227) (I 224).toNatClampNeg x)) 228 (upd (ri 228) (I 224).toNatClampNeg (I 320)), rj, rq) := fun x => by
        rw [g_X11_level_K73_e]
        simp only [↓ap1_n]
        rw [g_X7_tell_e]
        simp only [↓ap1_n]
        rw [if_pos d, bnI_mk, va_up_self, va_up_ne _ _ (show (226 : Nat) ≠ 225 by decide), va_up_ne _ _ (show (227 : Nat) ≠ 226 by decide), va_up_ne _ _ (show (227 : Nat) ≠ 225 by decide), va_up_ne _ _ (show (228 : Nat) ≠ 227 by decide), va_up_ne _ _ (show (228 : Nat) ≠ 226 by decide), va_up_ne _ _ (show (228 : Nat) ≠ 225 by decide)]
      have rr : ∀ x : Int32, ∀ R, R = va_up (va_up (va_up (va_up ri 225 (upd (ri 225) (I 224).toNatClampNeg a0)) 226 (upd (ri 226) (I 224).toNatClampNeg a1)) 227 (upd (ri 227) (I 224).toNatClampNeg x)) 228 (upd (ri 228) (I 224).toNatClampNeg (I 320)) → R 225 = upd (ri 225) (I 224).toNatClampNeg a0 ∧ R 226 = upd (ri 226) (I 224).toNatClampNeg a1 ∧ R 227 = upd (ri 227) (I 224).toNatClampNeg x ∧ R 228 = upd (ri 228) (I 224).toNatClampNeg (I 320) ∧ ∀ t, t ∉ [225, 226, 227, 228] → R t = ri t := fun x R hR => by
        subst hR
        refine ⟨?_, ?_, ?_, ?_, fun t ht => ?_⟩
        · rw [va_up_ne _ _ (show (225 : Nat) ≠ 228 by decide), va_up_ne _ _ (show (225 : Nat) ≠ 227 by decide), va_up_ne _ _ (show (225 : Nat) ≠ 226 by decide), va_up_self]
        · rw [va_up_ne _ _ (show (226 : Nat) ≠ 228 by decide), va_up_ne _ _ (show (226 : Nat) ≠ 227 by decide), va_up_self]
        · rw [va_up_ne _ _ (show (227 : Nat) ≠ 228 by decide), va_up_self]
        · rw [va_up_self]
        · simp only [List.mem_cons, List.not_mem_nil, or_false, not_or] at ht
          rw [va_up_ne _ _ ht.2.2.2, va_up_ne _ _ ht.2.2.1, va_up_ne _ _ ht.2.1, va_up_ne _ _ ht.1]
      have m : ∀ (f w : Int32) (B : Nat → Int32), B = upd (upd (upd (upd (upd (upd (si 384) (1220 + 5 * (I 224).toNatClampNeg) a0) (1220 + 1 + 5 * (I 224).toNatClampNeg) a1) (1220 + 2 + 5 * (I 224).toNatClampNeg) f) (1220 + 3 + 5 * (I 224).toNatClampNeg) w) (1220 + 4 + 5 * (I 224).toNatClampNeg) (si 384 0)) 3 (I 224 + 1) → B (1220 + 5 * (I 224).toNatClampNeg) = a0 ∧ B (1220 + 1 + 5 * (I 224).toNatClampNeg) = a1 ∧ B (1220 + 2 + 5 * (I 224).toNatClampNeg) = f ∧ B (1220 + 3 + 5 * (I 224).toNatClampNeg) = w ∧ B (1220 + 4 + 5 * (I 224).toNatClampNeg) = si 384 0 ∧ B 3 = si 384 3 + 1 ∧ ∀ i, i ≠ 3 → (i < 1220 + 5 * (I 224).toNatClampNeg ∨ 1220 + 5 * (I 224).toNatClampNeg + 5 ≤ i) → B i = si 384 i := fun f w B hB => by
        subst hB
        refine ⟨?_, ?_, ?_, ?_, ?_, ?_, fun i h3 hi => ?_⟩
        · rw [upd_n _ _ (by omega), upd_n _ _ (by omega), upd_n _ _ (by omega), upd_n _ _ (by omega), upd_n _ _ (by omega), upd_s]
        · rw [upd_n _ _ (by omega), upd_n _ _ (by omega), upd_n _ _ (by omega), upd_n _ _ (by omega), upd_s]
        · rw [upd_n _ _ (by omega), upd_n _ _ (by omega), upd_n _ _ (by omega), upd_s]
        · rw [upd_n _ _ (by omega), upd_n _ _ (by omega), upd_s]
        · rw [upd_n _ _ (by omega), upd_s]
        · rw [upd_s, e3]
        · rw [upd_n _ _ h3, upd_n _ _ (by omega), upd_n _ _ (by omega), upd_n _ _ (by omega), upd_n _ _ (by omega), upd_n _ _ (by omega)]
      have fin : ∀ (x f w : Int32), ((f.toInt = 0 ∧ x.toInt = -5000) ∨ (f.toInt = 1 ∧ x = w ∧ -1000 ≤ w.toInt ∧ w.toInt ≤ 5000)) → CV (g_X11_level_K73 a0 a1 I J ri rj rq x) (I 224 + 1, U, V, va_up si 384 (upd (upd (upd (upd (upd (upd (si 384) (1220 + 5 * (I 224).toNatClampNeg) a0) (1220 + 1 + 5 * (I 224).toNatClampNeg) a1) (1220 + 2 + 5 * (I 224).toNatClampNeg) f) (1220 + 3 + 5 * (I 224).toNatClampNeg) w) (1220 + 4 + 5 * (I 224).toNatClampNeg) (si 384 0)) 3 (I 224 + 1)), sj, sq) := fun x f w hx => by
        rw [c x]
        refine ⟨rfl, ?_⟩
        show RSL (va_up I 224 (I 224 + 1)) _ (va_up si 384 _ 384)
        rw [va_up_self]
        obtain ⟨p1, p2, p3, p4, p5⟩ := rr x _ rfl
        obtain ⟨b0, b1, b2, b3, b4, b5, b6⟩ := m f w _ rfl
        exact RL_tell h (by omega) p1 p2 p3 p4 p5 b0 b1 b2 b3 b4 b5 b6 hx
      simp only [if_pos d, ← e3, if_neg d2]
      by_cases q : a2 = 0
      · simp only [if_pos q, g_X12_level_K95, g_X12_level_K114, ↓ap1_n, va_up_self, up_up, k3, i0.1, i0.2.1, i2.1, i3.1, i4.1]
        exact fin (-5000) 0 0 (Or.inl ⟨by decide, by decide⟩)
      · simp only [if_neg q, g_X12_level_K95_2, g_X12_level_K114_2, ↓ap1_n, va_up_self, up_up, k3, i0.1, i0.2.1, i2.1, i3.1, i4.1]
        exact fin a3 1 a3 (Or.inr ⟨by decide, rfl, hv.resolve_left q⟩)
    · have d1 := Int32.le_iff_toInt_le.mp (Int32.not_lt.mp d)
      have d2 : si 384 3 = 200 := Int32.toInt_inj.mp (by rw [← e3]; omega)
      simp only [if_neg d, if_pos d2, g_X12_level_K44]
      exact cv_no h
  rw [g_X11_level_e, g_X12_level_e]
  simp only [↓ap1_n, isRise_c, isRise_m, isMonth_c, isMonth_m, between_b, isIn_b, g_X11_level_K32, g_X12_level_K44]
  by_cases q1 : bt a0 0 2 = 0
  · simp only [if_pos q1]; exact cv_no h
  · by_cases q2 : bt a1 0 599 = 0
    · simp only [if_neg q1, if_pos q2]; exact cv_no h
    · by_cases q3 : a2 = 0
      · simp only [if_neg q1, if_neg q2, if_pos q3]
        exact told (Or.inl q3)
      · by_cases q4 : bt a3 (-1000) 5000 = 0
        · simp only [if_neg q1, if_neg q2, if_neg q3]
          show CV (if bt a3 (-1000) 5000 = 0 then _ else _) (if bt a3 (-1000) 5000 = 0 then _ else _)
          rw [if_pos q4, if_pos q4]
          exact cv_no h
        · have b := bt_n q4
          have k1 : (-1000 : Int32).toInt = -1000 := by decide
          have k5 : (5000 : Int32).toInt = 5000 := by decide
          simp only [if_neg q1, if_neg q2, if_neg q3]
          show CV (if bt a3 (-1000) 5000 = 0 then _ else _) (if bt a3 (-1000) 5000 = 0 then _ else _)
          rw [if_neg q4, if_neg q4]
          exact told (Or.inr ⟨by omega, by omega⟩)
/-- a WALL -/
theorem RL_wall {a0 a1 : Int32} (h : RSL I ri A) (b0 : 0 ≤ a0.toInt) (b1 : a0.toInt ≤ 39) (b2 : 0 ≤ a1.toInt) : RSL I (va_up ri 75 (upd (ri 75) a0.toNatClampNeg a1)) (upd A (100 + 16 * a0.toNatClampNeg + 6) a1) := by
  obtain ⟨hn, hmx, ⟨e0, e1, e2, e3⟩, hlv, ⟨htb, hb, hg, hd⟩, hld, hnx⟩ := h
  have z := clampE a0
  have o : ∀ i, i ≠ 100 + 16 * a0.toNatClampNeg + 6 → upd A (100 + 16 * a0.toNatClampNeg + 6) a1 i = A i := fun i hi => upd_n _ _ hi
  have ro : ∀ {t : Nat}, t ≠ 75 → va_up ri 75 (upd (ri 75) a0.toNatClampNeg a1) t = ri t := fun ht => va_up_ne _ _ ht
  have zn := clampE (I 224)
  have hl2 := hn.2.2.2
  refine ⟨hn, ?_, ⟨?_, ?_, ?_, ?_⟩, ?_, ⟨fun j hj => ?_, ?_, ?_, ?_⟩, fun c hc => ?_, ?_⟩
  · show (0 ≤ (upd A _ a1 1).toInt ∧ (upd A _ a1 1).toInt ≤ 5) ∧ (0 ≤ (upd A _ a1 5).toInt ∧ (upd A _ a1 5).toInt ≤ 40) ∧ (upd A _ a1 4).toInt ≤ 5
    rw [o 1 (by omega), o 5 (by omega), o 4 (by omega)]; exact hmx
  · rw [o 0 (by omega)]; exact e0
  · rw [o 1 (by omega)]; exact e1
  · rw [o 2 (by omega)]; exact e2
  · rw [o 3 (by omega)]; exact e3
  · show LVR _ _ _ _ _ _ _ _ _ _
    rw [ro (show (225 : Nat) ≠ 75 by decide), ro (show (226 : Nat) ≠ 75 by decide), ro (show (227 : Nat) ≠ 75 by decide), ro (show (228 : Nat) ≠ 75 by decide)]
    intro k hk
    have a5 : ∀ p, A5 (upd A (100 + 16 * a0.toNatClampNeg + 6) a1) p k = A5 A p k := fun p => o (1220 + p + 5 * k) (by omega)
    rw [a5, a5, a5, a5, a5]
    exact hlv k hk
  · rw [ro (show (229 : Nat) ≠ 75 by decide), ro (show (230 : Nat) ≠ 75 by decide), ro (show (231 : Nat) ≠ 75 by decide), ro (show (232 : Nat) ≠ 75 by decide), o _ (by omega), o _ (by omega), o _ (by omega), o _ (by omega)]
    exact htb j hj
  · rw [o 13 (by omega)]; exact hb
  · rw [o 14 (by omega)]; exact hg
  · rw [o 15 (by omega)]; exact hd
  · rw [o _ (by omega), o _ (by omega), o _ (by omega), o _ (by omega), ro (show (69 : Nat) ≠ 75 by decide), ro (show (70 : Nat) ≠ 75 by decide), ro (show (73 : Nat) ≠ 75 by decide), ro (show (74 : Nat) ≠ 75 by decide), va_up_self]
    have x := hld c hc
    by_cases w : c = a0.toNatClampNeg
    · subst w
      rw [upd_s, upd_s]
      exact ⟨x.1, x.2.1, x.2.2.1, x.2.2.2.1, rfl, b2⟩
    · rw [upd_n _ _ w, o _ (by omega)]
      exact x
  · show NXT _ _ _ ∧ _
    rw [ro (show (79 : Nat) ≠ 75 by decide), ro (show (69 : Nat) ≠ 75 by decide)]
    exact hnx
theorem wall_CV {a0 a1 : Int32} (h : RSL I ri (si 384)) : CV (g_X11_wall a0 a1 I J ri rj rq) (g_X12_wall a0 a1 U V si sj sq) := by
  have h' := h
  obtain ⟨⟨hm, ⟨c0, c4⟩, hl⟩, hmx, ⟨e0, e1, e2, e3⟩, _⟩ := h'
  rw [g_X11_wall_e, g_X12_wall_e, isCell_c, isCell_m, bnI_mk, bnI_mk]
  simp only [↓ap1_n, between_b, isIn_b, g_X11_wall_K19, g_X12_wall_K19]
  rw [← e2]
  by_cases q1 : bt a0 0 (I 65 - 1) = 0
  · simp only [if_pos q1]; exact cv_no h
  · by_cases q2 : bt a1 0 1000 = 0
    · simp only [if_neg q1, if_pos q2]; exact cv_no h
    · have b1 := bt_cell c0 c4 q1
      have b2 := bt_n q2
      have k0 : (0 : Int32).toInt = 0 := by decide
      have i6 := ixk (c := a0) (k := 6) 6 (by decide) (by decide) (by omega) (by omega)
      simp only [if_neg q1, if_neg q2, i6]
      refine ⟨rfl, ?_⟩
      show RSL I (va_up ri 75 (upd (ri 75) a0.toNatClampNeg a1)) (va_up si 384 (upd (si 384) (100 + 16 * a0.toNatClampNeg + 6) a1) 384)
      rw [va_up_self]
      exact RL_wall h (by omega) (by omega) (by omega)
/-- a RING -/
theorem ring_CV (h : RSL I ri (si 384)) : CV (g_X11_ring I J ri rj rq) (g_X12_ring U V si sj sq) := by
  have h' := h
  obtain ⟨hn, ⟨⟨p0, p5⟩, o5⟩, ⟨e0, e1, e2, e3⟩, hlv, ⟨htb, hb, hg, hd⟩, hld, hnx⟩ := h'
  have k1 : (1 : Int32).toNatClampNeg = 1 := by decide
  have k5 : (5 : Int32).toInt = 5 := by decide
  rw [g_X11_ring_e, g_X12_ring_e]
  simp only [↓ap1_n, k1]
  rw [← e1] at p0 p5 ⊢
  by_cases d : I 64 < 5
  · have d1 := Int32.lt_iff_toInt_lt.mp d
    have d2 : ¬ I 64 = 5 := fun y => by rw [y] at d1; omega
    have q : (I 64 + 1).toInt = (I 64).toInt + 1 := t1_one (by omega) (by omega)
    simp only [if_pos d, if_neg d2, va_up_self]
    refine ⟨rfl, ?_⟩
    show RSL (va_up I 64 (I 64 + 1)) ri (va_up si 384 (upd (si 384) 1 (I 64 + 1)) 384)
    rw [va_up_self]
    have o : ∀ i, i ≠ 1 → upd (si 384) 1 (I 64 + 1) i = si 384 i := fun i hi => upd_n _ _ hi
    have oI : ∀ {f : Nat}, f ≠ 64 → va_up I 64 (I 64 + 1) f = I f := fun hf => va_up_ne _ _ hf
    refine ⟨?_, ?_, ⟨?_, ?_, ?_, ?_⟩, ?_, ⟨fun j hj => ?_, ?_, ?_, ?_⟩, fun c hc => ?_, ?_⟩
    · show (_ ∧ _) ∧ (_ ∧ _) ∧ _ ∧ _
      rw [oI (show (320 : Nat) ≠ 64 by decide), oI (show (65 : Nat) ≠ 64 by decide), oI (show (224 : Nat) ≠ 64 by decide)]; exact hn
    · show (0 ≤ (upd (si 384) 1 _ 1).toInt ∧ (upd (si 384) 1 _ 1).toInt ≤ 5) ∧ (0 ≤ (upd (si 384) 1 _ 5).toInt ∧ (upd (si 384) 1 _ 5).toInt ≤ 40) ∧ (upd (si 384) 1 _ 4).toInt ≤ 5
      rw [upd_s, o 5 (by decide), o 4 (by decide), q]; exact ⟨⟨by omega, by omega⟩, o5⟩
    · rw [oI (show (320 : Nat) ≠ 64 by decide), o 0 (by decide)]; exact e0
    · rw [va_up_self, upd_s]
    · rw [oI (show (65 : Nat) ≠ 64 by decide), o 2 (by decide)]; exact e2
    · rw [oI (show (224 : Nat) ≠ 64 by decide), o 3 (by decide)]; exact e3
    · show LVR _ _ _ _ _ _ _ _ _ _
      rw [oI (show (224 : Nat) ≠ 64 by decide)]
      intro k hk
      have a5 : ∀ p, A5 (upd (si 384) 1 (I 64 + 1)) p k = A5 (si 384) p k := fun p => o _ (by omega)
      rw [a5, a5, a5, a5, a5]
      exact hlv k hk
    · rw [o _ (by omega), o _ (by omega), o _ (by omega), o _ (by omega)]
      exact htb j hj
    · rw [oI (show (234 : Nat) ≠ 64 by decide), o 13 (by decide)]; exact hb
    · rw [oI (show (235 : Nat) ≠ 64 by decide), o 14 (by decide)]; exact hg
    · rw [oI (show (236 : Nat) ≠ 64 by decide), o 15 (by decide)]; exact hd
    · rw [o _ (by omega), o _ (by omega), o _ (by omega), o _ (by omega), o _ (by omega)]
      exact hld c hc
    · show NXT _ _ _ ∧ _
      rw [oI (show (65 : Nat) ≠ 64 by decide)]
      exact hnx
  · have d1 := Int32.le_iff_toInt_le.mp (Int32.not_lt.mp d)
    have d2 : I 64 = 5 := Int32.toInt_inj.mp (by omega)
    simp only [if_neg d, if_pos d2]
    exact cv_no h
end PU12
