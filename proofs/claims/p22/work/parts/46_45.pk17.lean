/-! ===== pure: what a copy leaves of a country besides SEAS and LAND; AREA asked (behind pk14) ===== -/
section PK17
variable {nI : Nat → Int32} {nJ : Nat → Int64} {nR : Nat → Nat → Int32} {nL : Nat → Nat → Int64} {nQ : Nat → Nat → Option Nat}
variable {I : Nat → Int32} {J : Nat → Int64} {ri : Nat → Nat → Int32} {rj : Nat → Nat → Int64} {rq : Nat → Nat → Option Nat}
variable {U : Nat → Int32} {V : Nat → Int64} {si : Nat → Nat → Int32} {sj : Nat → Nat → Int64} {sq : Nat → Nat → Option Nat}
/-- how many of a row count -/
def lnw (t : Nat) : Nat := if t = 11 then 5 else 40
theorem cpyl_v {f g : Nat → Int64} {n j : Nat} (h : j < n) : va_cpy f g 0 0 n j = f j := by
  unfold va_cpy
  rw [if_pos ⟨Nat.zero_le _, by omega⟩, show 0 + (j - 0) = j from by omega]
theorem cp7w : ∃ (I1 : Nat → Int32) (r1 : Nat → Nat → Int32), g_X7_copyFrom nI nR I J ri rj rq = (I1, J, r1, rj, rq) ∧ (∀ f, f ∈ [237, 238] → I1 f = nI f) ∧ (∀ f, f ∉ [224, 234, 235, 236, 237, 238] → I1 f = I f) ∧ ∀ t, t ∉ [225, 226, 227, 228, 229, 230, 231, 232, 233] → r1 t = ri t := by
  rw [g_X7_copyFrom_e]
  simp only [↓ap1_n]
  refine ⟨_, _, rfl, fun f hf => ?_, fun f hf => ?_, fun t ht => ?_⟩
  · simp only [List.mem_cons, List.not_mem_nil, or_false] at hf
    rcases hf with e | e <;> subst e <;> simp [va_up]
  · simp only [List.mem_cons, List.not_mem_nil, or_false, not_or] at hf
    simp [va_up, hf]
  · simp only [List.mem_cons, List.not_mem_nil, or_false, not_or] at ht
    simp [va_up, ht]
theorem cp2w : ∃ (I1 : Nat → Int32) (J1 : Nat → Int64) (r1 : Nat → Nat → Int32) (l1 : Nat → Nat → Int64), g_X2_copyFrom nI nJ nR nL I J ri rj rq = (I1, J1, r1, l1, rq) ∧ I1 65 = nI 65 ∧ (∀ f, f ∉ [64, 65, 66] → I1 f = I f) ∧ J1 67 = nJ 67 ∧ (∀ t, t ∈ [71, 72, 77] → ∀ j, j < 40 → r1 t j = nR t j) ∧ (∀ t, t ∉ [69, 70, 71, 72, 73, 74, 75, 76, 77, 79, 80, 288, 289, 290] → r1 t = ri t) ∧ ∀ j, j < 600 → l1 68 j = nL 68 j := by
  have z0 : (0 : Int32).toNatClampNeg = 0 := by decide
  have z6 : (600 : Int32).toNatClampNeg = 600 := by decide
  rw [g_X2_copyFrom_e]
  simp only [↓ap1_n]
  rw [g_X9_copyFrom_e]
  simp only [↓ap1_n]
  rw [bnV_mk]
  refine ⟨_, _, _, _, rfl, ?_, fun f hf => ?_, va_up_self _ _ _, fun t ht j hj => ?_, fun t ht => ?_, fun j hj => ?_⟩
  · simp [va_up]
  · simp only [List.mem_cons, List.not_mem_nil, or_false, not_or] at hf
    simp [va_up, hf]
  · simp only [List.mem_cons, List.not_mem_nil, or_false] at ht
    rcases ht with e | e | e <;> subst e <;> simp [va_up, cpy_v hj]
  · simp only [List.mem_cons, List.not_mem_nil, or_false, not_or] at ht
    simp [va_up, ht]
  · rw [va_up_self, z0, z6]
    exact cpyl_v hj
theorem cp0w : ∃ (I1 : Nat → Int32) (r1 : Nat → Nat → Int32), g_X0_copyFrom nI nR I J ri rj rq = (I1, J, r1, rj, rq) ∧ (∀ f, f ∈ [0, 10] → I1 f = nI f) ∧ (∀ f, f ∉ [0, 10] → I1 f = I f) ∧ (∀ t, t ∈ [1, 2, 3, 4, 5, 9] → ∀ j, j < 40 → r1 t j = nR t j) ∧ (∀ j, j < 5 → r1 11 j = nR 11 j) ∧ ∀ t, t ∉ [1, 2, 3, 4, 5, 6, 7, 8, 9, 11] → r1 t = ri t := by
  rw [g_X0_copyFrom_e]
  simp only [↓ap1_n]
  refine ⟨_, _, rfl, fun f hf => ?_, fun f hf => ?_, fun t ht j hj => ?_, fun j hj => ?_, fun t ht => ?_⟩
  · simp only [List.mem_cons, List.not_mem_nil, or_false] at hf
    rcases hf with e | e <;> subst e <;> simp [va_up]
  · simp only [List.mem_cons, List.not_mem_nil, or_false, not_or] at hf
    simp [va_up, hf]
  · simp only [List.mem_cons, List.not_mem_nil, or_false] at ht
    rcases ht with e | e | e | e | e | e <;> subst e <;> simp [va_up, cpy_v hj]
  · simp [va_up, cpy_v hj]
  · simp only [List.mem_cons, List.not_mem_nil, or_false, not_or] at ht
    simp [va_up, ht]
/-- what a copy leaves -/
def QW (nI : Nat → Int32) (nJ : Nat → Int64) (nR : Nat → Nat → Int32) (nL : Nat → Nat → Int64) (b : vM) : Prop := (∀ f, f ∈ [65, 320, 237, 238, 321, 322, 323, 324, 0, 10] → b.1 f = nI f) ∧ b.2.1 67 = nJ 67 ∧ (∀ t, t ∈ [1, 2, 3, 4, 5, 9, 11, 71, 72, 77, 325] → ∀ j, j < lnw t → b.2.2.1 t j = nR t j) ∧ ∀ j, j < 600 → b.2.2.2.1 68 j = nL 68 j
theorem copyFrom_w : QW nI nJ nR nL (g_X10_copyFrom nI nJ nR nL nQ I J ri rj rq) := by
  rw [g_X10_copyFrom_e]
  simp only [↓ap1_n]
  generalize hI0 : va_up (va_up (va_up (va_up (va_up I 320 (nI 320)) 321 (nI 321)) 322 (nI 322)) 323 (nI 323)) 324 (nI 324) = I0
  generalize hr0 : va_up ri 325 (va_cpy (nR 325) (ri 325) 0 0 40) = r0
  have h32 : ∀ f, f ∈ [320, 321, 322, 323, 324] → I0 f = nI f := fun f hf => by
    rw [← hI0]
    simp only [List.mem_cons, List.not_mem_nil, or_false] at hf
    rcases hf with e | e | e | e | e <;> subst e <;> simp [va_up]
  have h325 : ∀ j, j < 40 → r0 325 j = nR 325 j := fun j hj => by
    rw [← hr0, va_up_self]
    exact cpy_v hj
  obtain ⟨I7, r7, e7, a7, b7, f7⟩ := cp7w (nI := nI) (nR := nR) (I := I0) (J := J) (ri := r0) (rj := rj) (rq := rq)
  rw [e7, bnV_mk]
  obtain ⟨I2, J2, r2, l2, e2, a2, b2, c2, d2, f2, g2⟩ := cp2w (nI := nI) (nJ := nJ) (nR := nR) (nL := nL) (I := I7) (J := J) (ri := r7) (rj := rj) (rq := rq)
  rw [e2, bnV_mk]
  obtain ⟨Ia, ra, ea, aa, ba, ca, da, fa⟩ := cp0w (nI := nI) (nR := nR) (I := I2) (J := J2) (ri := r2) (rj := l2) (rq := rq)
  rw [ea, bnV_mk]
  refine bV_of g_X3_copyFrom_f (fun Ib _ rb _ _ h3 => ?_)
  refine bV_of g_X1_copyFrom_f (fun Ic _ rc lc _ h4 => ?_)
  have DI : ∀ f, f ∈ [65, 320, 237, 238, 321, 322, 323, 324, 0, 10] → f ∉ w_X3_copyFrom.1 ∧ f ∉ w_X1_copyFrom.1 := by decide
  have DR : ∀ t, t ∈ [1, 2, 3, 4, 5, 9, 11, 71, 72, 77, 325] → t ∉ w_X3_copyFrom.2.2.1 ∧ t ∉ w_X1_copyFrom.2.2.1 := by decide
  have gI : ∀ f, f ∈ [65, 320, 237, 238, 321, 322, 323, 324, 0, 10] → Ic f = Ia f := fun f hf => by
    have x2 : Ib f = Ia f := h3.1 f (DI f hf).1
    have x3 : Ic f = Ib f := h4.1 f (DI f hf).2
    rw [x3, x2]
  have gR : ∀ t, t ∈ [1, 2, 3, 4, 5, 9, 11, 71, 72, 77, 325] → rc t = ra t := fun t ht => by
    have x2 : rb t = ra t := h3.2.2.1 t (DR t ht).1
    have x3 : rc t = rb t := h4.2.2.1 t (DR t ht).2
    rw [x3, x2]
  have gL : lc 68 = l2 68 := h4.2.2.2.1 68 (by decide)
  refine ⟨fun f hf => ?_, c2, fun t ht j hj => ?_, fun j hj => ?_⟩
  · show Ic f = nI f
    rw [gI f hf]
    simp only [List.mem_cons, List.not_mem_nil, or_false] at hf
    rcases hf with e | e | e | e | e | e | e | e | e | e <;> subst e
    · rw [ba 65 (by decide)]; exact a2
    · rw [ba 320 (by decide), b2 320 (by decide), b7 320 (by decide)]; exact h32 320 (by decide)
    · rw [ba 237 (by decide), b2 237 (by decide)]; exact a7 237 (by decide)
    · rw [ba 238 (by decide), b2 238 (by decide)]; exact a7 238 (by decide)
    · rw [ba 321 (by decide), b2 321 (by decide), b7 321 (by decide)]; exact h32 321 (by decide)
    · rw [ba 322 (by decide), b2 322 (by decide), b7 322 (by decide)]; exact h32 322 (by decide)
    · rw [ba 323 (by decide), b2 323 (by decide), b7 323 (by decide)]; exact h32 323 (by decide)
    · rw [ba 324 (by decide), b2 324 (by decide), b7 324 (by decide)]; exact h32 324 (by decide)
    · exact aa 0 (by decide)
    · exact aa 10 (by decide)
  · show rc t j = nR t j
    rw [gR t ht]
    have l40 : ∀ k, k ≠ 11 → j < lnw k → j < 40 := fun k hk h => by
      unfold lnw at h
      rw [if_neg hk] at h
      exact h
    simp only [List.mem_cons, List.not_mem_nil, or_false] at ht
    rcases ht with e | e | e | e | e | e | e | e | e | e | e <;> subst e
    · exact ca 1 (by decide) j (l40 1 (by decide) hj)
    · exact ca 2 (by decide) j (l40 2 (by decide) hj)
    · exact ca 3 (by decide) j (l40 3 (by decide) hj)
    · exact ca 4 (by decide) j (l40 4 (by decide) hj)
    · exact ca 5 (by decide) j (l40 5 (by decide) hj)
    · exact ca 9 (by decide) j (l40 9 (by decide) hj)
    · exact da j hj
    · rw [fa 71 (by decide)]; exact d2 71 (by decide) j (l40 71 (by decide) hj)
    · rw [fa 72 (by decide)]; exact d2 72 (by decide) j (l40 72 (by decide) hj)
    · rw [fa 77 (by decide)]; exact d2 77 (by decide) j (l40 77 (by decide) hj)
    · rw [fa 325 (by decide), f2 325 (by decide), f7 325 (by decide)]; exact h325 j (l40 325 (by decide) hj)
  · show lc 68 j = nL 68 j
    rw [gL]
    exact g2 j hj
theorem image_w {r : Int32} {I1 : Nat → Int32} {J1 : Nat → Int64} {r1 : Nat → Nat → Int32} {l1 : Nat → Nat → Int64} {q1 : Nat → Nat → Option Nat} (e : g_X11_image nI nJ nR nL nQ I J ri rj rq = (r, I1, J1, r1, l1, q1)) : QW nI nJ nR nL (I1, J1, r1, l1, q1) := by
  have h : QW nI nJ nR nL (g_X10_copyFrom nI nJ nR nL nQ I J ri rj rq) := copyFrom_w
  rw [g_X11_image_e] at e
  generalize g_X10_copyFrom nI nJ nR nL nQ I J ri rj rq = p at h e
  obtain ⟨a, b, c, d, f⟩ := p
  have e2 : ((nI 320, a, b, c, d, f) : Int32 × vM) = (r, I1, J1, r1, l1, q1) := e
  exact (Prod.mk.inj e2).2 ▸ h
theorem back_w {r : Int32} {I1 : Nat → Int32} {J1 : Nat → Int64} {r1 : Nat → Nat → Int32} {l1 : Nat → Nat → Int64} {q1 : Nat → Nat → Option Nat} (e : g_X11_back nI nJ nR nL nQ I J ri rj rq = (r, I1, J1, r1, l1, q1)) : QW nI nJ nR nL (I1, J1, r1, l1, q1) := by
  have h : QW nI nJ nR nL (g_X10_copyFrom nI nJ nR nL nQ I J ri rj rq) := copyFrom_w
  rw [g_X11_back_e] at e
  generalize g_X10_copyFrom nI nJ nR nL nQ I J ri rj rq = p at h e
  obtain ⟨a, b, c, d, f⟩ := p
  have e2 : ((a 320, a, b, c, d, f) : Int32 × vM) = (r, I1, J1, r1, l1, q1) := e
  exact (Prod.mk.inj e2).2 ▸ h
/-- area() -/
theorem area_W (h : ARL I (si 384)) : (g_X11_area I J ri rj rq).1 = (g_X12_area U V si sj sq).1 := by
  have n18 : (18 : Int32).toNatClampNeg = 18 := by decide
  have n0 : (0 : Int32).toNatClampNeg = 0 := by decide
  rw [g_X11_area_e, g_X12_area_e]
  simp only [↓ap1_n, n18]
  by_cases q : si 384 0 = 0
  · rw [if_pos q]
    exact h.1 q
  · rw [if_neg q]
    exact h.2 q
/-! ===== a relation that hangs on some fields, rows and cells alone ===== -/
def BND (I : Nat → Int32) : Prop := (I 320).toNatClampNeg ≤ 600 ∧ (I 65).toNatClampNeg ≤ 40
theorem bnd_of {A : Nat → Int32} (h : RSL I ri A) : BND I := by
  have z1 := clampE (I 320)
  have z2 := clampE (I 65)
  have b1 := h.1.1
  have b2 := h.1.2.1
  exact ⟨by omega, by omega⟩
def DEP (fs ts zs : List Nat) (P : (Nat → Int32) → (Nat → Int64) → (Nat → Nat → Int32) → (Nat → Nat → Int64) → (Nat → Int32) → Prop) : Prop := ∀ (I : Nat → Int32) (J : Nat → Int64) (ri : Nat → Nat → Int32) (rj : Nat → Nat → Int64) (A I1 : Nat → Int32) (J1 : Nat → Int64) (r1 : Nat → Nat → Int32) (l1 : Nat → Nat → Int64) (A1 : Nat → Int32), BND I → P I J ri rj A → (∀ f, f ∈ fs → I1 f = I f) → J1 67 = J 67 → (∀ t, t ∈ ts → ∀ j, j < lnw t → r1 t j = ri t j) → (∀ j, j < 600 → l1 68 j = rj 68 j) → (∀ j, zn j ∈ zs → A1 j = A j) → P I1 J1 r1 l1 A1
theorem lnw_40 {t j : Nat} (h : t ≠ 11) (hj : j < 40) : j < lnw t := by
  unfold lnw
  rw [if_neg h]
  exact hj
theorem zn_80 {l : Nat} (h : l < 5) : zn (80 + l) = 200 := zn_LOT1 ⟨by omega, by omega⟩
theorem zn_rk {i : Nat} (h1 : 2520 ≤ i) (h2 : i < 3720) : zn i ∈ [800, 801] := by
  have e : zn i = 800 + (i - 2520) % 2 := by
    unfold zn
    rw [if_neg (by omega), if_neg (by omega), if_neg (by omega), if_neg (by omega), if_neg (by omega), if_neg (by omega), if_neg (by omega), if_neg (by omega), if_neg (by omega), if_neg (by omega), if_pos (by omega)]
  rcases (show (i - 2520) % 2 = 0 ∨ (i - 2520) % 2 = 1 by omega) with q | q <;> rw [e, q] <;> decide
theorem dAR : DEP [65, 320, 237, 324] [71, 72] [0, 16, 18, 302, 303, 800, 801] (fun I _ ri rj A => ARH (I 320).toNatClampNeg I ri rj A ∧ ARL I A) := fun I J ri rj A I1 J1 r1 l1 A1 hb h hf _ ht hl hz => by
  refine ⟨?_, ARL_cg h.2 (hf 324 (by decide)) (hz 0 (by decide)) (hz 18 (by decide))⟩
  rw [hf 320 (by decide)]
  refine ARH_cg h.1 (hf 237 (by decide)) (hf 65 (by decide)) (fun c hc => ⟨ht 71 (by decide) c (lnw_40 (by decide) hc), ht 72 (by decide) c (lnw_40 (by decide) hc)⟩) (fun f hf6 c _ => by rw [hl f hf6]) hb.1 hb.2 (hz 16 (by decide)) (fun c k hc hk => hz _ ?_) (fun i h1 h2 => hz i ?_)
  · rw [zn_c hc ((by decide : ∀ k, k ∈ [2, 3] → k < 16) k hk)]
    exact (by decide : ∀ k, k ∈ [2, 3] → 300 + k ∈ [0, 16, 18, 302, 303, 800, 801]) k hk
  · exact (by decide : ∀ z, z ∈ [800, 801] → z ∈ [0, 16, 18, 302, 303, 800, 801]) _ (zn_rk h1 h2)
theorem dFU : DEP [238, 321, 323] [] [8, 12, 17] (fun I _ _ _ A => FUR I A) := fun I J ri rj A I1 J1 r1 l1 A1 _ h hf _ _ _ hz => FUR_cg h hf (fun i hi => hz i ((by decide : ∀ i, i ∈ [8, 12, 17] → zn i ∈ [8, 12, 17]) i hi))
theorem dFK : DEP [0] [1, 2, 3, 4, 5, 9] [5, 400, 401, 402, 403, 404, 408] (fun I _ ri _ A => FLK I ri A) := fun I J ri rj A I1 J1 r1 l1 A1 _ h hf _ ht _ hz => FLK_cg h (hf 0 (by decide)) (fun t h1 p hp => ht t h1 p (lnw_40 ((by decide : ∀ t, t ∈ [1, 2, 3, 4, 5, 9] → t ≠ 11) t h1) hp)) (hz 5 (by decide)) (fun p k hp hk => hz _ (by
  rw [zn_PERSON (i := 740 + 12 * p + k) (c := p) (k := k) rfl hp ((by decide : ∀ k, k ∈ [0, 1, 2, 3, 4, 8] → k < 12) k hk)]
  exact (by decide : ∀ k, k ∈ [0, 1, 2, 3, 4, 8] → 400 + k ∈ [5, 400, 401, 402, 403, 404, 408]) k hk))
theorem dLT : DEP [10] [11] [4, 200] (fun I _ ri _ A => LTS I ri A) := fun I J ri rj A I1 J1 r1 l1 A1 _ h hf _ ht _ hz => LTS_cg h (hf 10 (by decide)) (fun l hl => ht 11 (by decide) l (by unfold lnw; rw [if_pos rfl]; exact hl)) (hz 4 (by decide)) (fun l hl => hz _ (by rw [zn_80 hl]; decide))
theorem dHL : DEP [65] [325] [314] (fun I _ ri _ A => HLD I ri A) := fun I J ri rj A I1 J1 r1 l1 A1 _ h hf _ ht _ hz => HLD_cg h (hf 65 (by decide)) (fun c hc => ht 325 (by decide) c (lnw_40 (by decide) hc)) (fun c hc => hz _ (by rw [zn_c hc (by decide)]; decide))
theorem dDR : DEP [65] [77] [0, 311, 312] (fun I J ri _ A => DRU I J ri A) := fun I J ri rj A I1 J1 r1 l1 A1 _ h hf hJ ht _ hz => DRU_cg h (hf 65 (by decide)) (fun c _ => by rw [hJ]) (fun c hc => ht 77 (by decide) c (lnw_40 (by decide) hc)) (hz 0 (by decide)) (fun c k hc hk => hz _ (by
  rw [zn_c hc ((by decide : ∀ k, k ∈ [11, 12] → k < 16) k hk)]
  exact (by decide : ∀ k, k ∈ [11, 12] → 300 + k ∈ [0, 311, 312]) k hk))
theorem dBT : DEP [322] [] [11] (fun I _ _ _ A => I 322 = A 11) := fun I J ri rj A I1 J1 r1 l1 A1 _ h hf _ _ _ hz => by
  show I1 322 = A1 11
  rw [hf 322 (by decide), hz 11 (by decide)]
  exact h
abbrev wfl : List Nat := [65, 320, 237, 238, 321, 322, 323, 324, 0, 10]
abbrev wtl : List Nat := [1, 2, 3, 4, 5, 9, 11, 71, 72, 77, 325]
abbrev wzl : List Nat := [0, 4, 5, 8, 11, 12, 16, 17, 18, 200, 302, 303, 311, 312, 314, 400, 401, 402, 403, 404, 408, 800, 801]
theorem dWR : DEP wfl wtl wzl WRA := fun I J ri rj A I1 J1 r1 l1 A1 hb h hf hJ ht hl hz => by
  obtain ⟨w1, w2, ⟨w3, w4, w5⟩, w6, w7⟩ := h
  refine ⟨dAR I J ri rj A I1 J1 r1 l1 A1 hb w1 (fun f x => hf f ?_) hJ (fun t x => ht t ?_) hl (fun j x => hz j ?_), dFU I J ri rj A I1 J1 r1 l1 A1 hb w2 (fun f x => hf f ?_) hJ (fun t x => ht t ?_) hl (fun j x => hz j ?_), ⟨dFK I J ri rj A I1 J1 r1 l1 A1 hb w3 (fun f x => hf f ?_) hJ (fun t x => ht t ?_) hl (fun j x => hz j ?_), dLT I J ri rj A I1 J1 r1 l1 A1 hb w4 (fun f x => hf f ?_) hJ (fun t x => ht t ?_) hl (fun j x => hz j ?_), dHL I J ri rj A I1 J1 r1 l1 A1 hb w5 (fun f x => hf f ?_) hJ (fun t x => ht t ?_) hl (fun j x => hz j ?_)⟩, dDR I J ri rj A I1 J1 r1 l1 A1 hb w6 (fun f x => hf f ?_) hJ (fun t x => ht t ?_) hl (fun j x => hz j ?_), dBT I J ri rj A I1 J1 r1 l1 A1 hb w7 (fun f x => hf f ?_) hJ (fun t x => ht t ?_) hl (fun j x => hz j ?_)⟩
  · exact (by decide : ∀ f, f ∈ [65, 320, 237, 324] → f ∈ wfl) f x
  · exact (by decide : ∀ t, t ∈ [71, 72] → t ∈ wtl) t x
  · exact (by decide : ∀ z, z ∈ [0, 16, 18, 302, 303, 800, 801] → z ∈ wzl) _ x
  · exact (by decide : ∀ f, f ∈ [238, 321, 323] → f ∈ wfl) f x
  · cases x
  · exact (by decide : ∀ z, z ∈ [8, 12, 17] → z ∈ wzl) _ x
  · exact (by decide : ∀ f, f ∈ [0] → f ∈ wfl) f x
  · exact (by decide : ∀ t, t ∈ [1, 2, 3, 4, 5, 9] → t ∈ wtl) t x
  · exact (by decide : ∀ z, z ∈ [5, 400, 401, 402, 403, 404, 408] → z ∈ wzl) _ x
  · exact (by decide : ∀ f, f ∈ [10] → f ∈ wfl) f x
  · exact (by decide : ∀ t, t ∈ [11] → t ∈ wtl) t x
  · exact (by decide : ∀ z, z ∈ [4, 200] → z ∈ wzl) _ x
  · exact (by decide : ∀ f, f ∈ [65] → f ∈ wfl) f x
  · exact (by decide : ∀ t, t ∈ [325] → t ∈ wtl) t x
  · exact (by decide : ∀ z, z ∈ [314] → z ∈ wzl) _ x
  · exact (by decide : ∀ f, f ∈ [65] → f ∈ wfl) f x
  · exact (by decide : ∀ t, t ∈ [77] → t ∈ wtl) t x
  · exact (by decide : ∀ z, z ∈ [0, 311, 312] → z ∈ wzl) _ x
  · exact (by decide : ∀ f, f ∈ [322] → f ∈ wfl) f x
  · cases x
  · exact (by decide : ∀ z, z ∈ [11] → z ∈ wzl) _ x
end PK17
