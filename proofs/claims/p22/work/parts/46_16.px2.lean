/-! ===== pure: what keeps TEXTS and FORCES alike (behind px) ===== -/
section PX2
variable {I I' : Nat → Int32} {J : Nat → Int64} {ri ri' : Nat → Nat → Int32} {rj : Nat → Nat → Int64} {rq rq' : Nat → Nat → Option Nat}
variable {U : Nat → Int32} {V : Nat → Int64} {si : Nat → Nat → Int32} {sj : Nat → Nat → Int64} {sq : Nat → Nat → Option Nat}
variable {tI tI' : Nat → Nat → Int32} {tR tR' : Nat → Nat → Nat → Int32} {A A' : Nat → Int32}
abbrev lzt : List Nat := [6, 900, 910, 911, 912, 913, 914, 915, 916, 917, 918, 919, 920, 921, 930, 931]
abbrev lzf : List Nat := [7, 600, 601, 602, 603]
theorem zn_x1 {t j : Nat} (ht : t < 10) (h1 : 3720 + 900 * t + 1 ≤ j) (h2 : j < 3720 + 900 * t + 241) : zn j ∈ lzt := by
  have e : zn j = 910 + (j - (3721 + 900 * t)) % 12 := zn_tc (t := t) (c := (j - (3721 + 900 * t)) / 12) (by omega) ht (by omega) (by omega)
  rw [e]
  exact (by decide : ∀ k, k < 12 → 910 + k ∈ lzt) _ (by omega)
theorem zn_x2 {t j : Nat} (ht : t < 10) (h1 : 3720 + 900 * t + 250 ≤ j) (h2 : j < 3720 + 900 * t + 900) : zn j ∈ lzt := by
  have e : zn j = 930 + (j - (3970 + 900 * t)) % 2 := zn_tk (t := t) (c := (j - (3970 + 900 * t)) / 2) (by omega) ht (by omega) (by omega)
  rw [e]
  exact (by decide : ∀ k, k < 2 → 930 + k ∈ lzt) _ (by omega)
theorem zn_x0 {t : Nat} (ht : t < 10) : zn (3720 + 900 * t) ∈ lzt := by
  rw [zn_t0 (t := t) rfl ht]
  decide
theorem zn_fx {i : Nat} (h1 : 2220 ≤ i) (h2 : i < 2340) : zn i ∈ lzf := by
  have e : zn i = 600 + (i - 2220) % 4 := zn_FORCE (c := (i - 2220) / 4) (by omega) (by omega) (by omega)
  rw [e]
  exact (by decide : ∀ k, k < 4 → 600 + k ∈ lzf) _ (by omega)
/-- TEXTS that stand -/
theorem TXo {x : Int} (h : ∀ t : Nat, (t : Int) < x → ∃ (w : Nat) (M : CLs), rq 97 t = some w ∧ TEX1 tI tR A w t M) (hx : x ≤ 10) (hq : ∀ t : Nat, (t : Int) < x → rq' 97 t = rq 97 t) (hI : ∀ t w : Nat, (t : Int) < x → rq 97 t = some w → tI' 256 w = tI 256 w ∧ ∀ u, u ∈ [257, 258, 259] → tR' u w = tR u w) (hC : ∀ t j : Nat, (t : Int) < x → 3720 + 900 * t ≤ j → j < 3720 + 900 * t + 900 → zn j ∈ lzt → A' j = A j) : ∀ t : Nat, (t : Int) < x → ∃ (w : Nat) (M : CLs), rq' 97 t = some w ∧ TEX1 tI' tR' A' w t M := fun t ht => by
  obtain ⟨w, M, e, a1, a2, a3, a4, u, a5, a6, a7⟩ := h t ht
  obtain ⟨i1, i2⟩ := hI t w ht e
  have t10 : t < 10 := by omega
  refine ⟨w, M, (hq t ht).trans e, by rw [i1]; exact a1, ?_, a3, ?_, u, ?_, a6, a7⟩
  · rw [hC t _ ht (Nat.le_refl _) (by omega) (zn_x0 t10), i1]
    exact a2
  · exact CTX_cg (r := fun q i => tR q w i) (r' := fun q i => tR' q w i) M a4 (fun j _ => congrFun (i2 257 (by decide)) j) (fun j _ => congrFun (i2 258 (by decide)) j) (fun j _ => congrFun (i2 259 (by decide)) j)
  · exact RTX_cg M u a5 a3 (fun j h1 h2 => hC t j ht (by omega) (by omega) (zn_x1 t10 h1 (by omega))) (fun j h1 h2 => hC t j ht (by omega) (by omega) (zn_x2 t10 h1 (by omega)))
theorem TXS_cg (h : TXS I rq tI tR A) (h96 : I' 96 = I 96) (hq : ∀ t, t < 10 → rq' 97 t = rq 97 t) (hI : ∀ t w : Nat, t < 10 → rq 97 t = some w → tI' 256 w = tI 256 w ∧ ∀ u, u ∈ [257, 258, 259] → tR' u w = tR u w) (hA : ∀ j, zn j ∈ lzt → A' j = A j) : TXS I' rq' tI' tR' A' := by
  obtain ⟨e, ⟨b0, b1⟩, h⟩ := h
  have e6 := hA 6 (by decide)
  refine ⟨by rw [h96, e6]; exact e, by rw [e6]; exact ⟨b0, b1⟩, ?_⟩
  rw [e6]
  exact TXo h b1 (fun t ht => hq t (by omega)) (fun t w ht => hI t w (by omega)) (fun t j _ _ _ hz => hA j hz)
theorem FCS_cg (h : FCS I ri A) (h98 : I' 98 = I 98) (hR : ∀ t, t ∈ [99, 100, 101] → ∀ j, j < 30 → ri' t j = ri t j) (h7 : A' 7 = A 7) (hC : ∀ i, 2220 ≤ i → i < 2340 → A' i = A i) (h6 : (A 6).toInt ≤ (A' 6).toInt) : FCS I' ri' A' := by
  obtain ⟨e, ⟨b0, b1⟩, h⟩ := h
  refine ⟨by rw [h98, h7]; exact e, by rw [h7]; exact ⟨b0, b1⟩, ?_⟩
  rw [h7]
  intro f hf
  obtain ⟨c1, c2, c3, c4, c5⟩ := h f hf
  have f30 : f < 30 := by omega
  rw [hR 99 (by decide) f f30, hR 100 (by decide) f f30, hR 101 (by decide) f f30, hC (2220 + 4 * f) (by omega) (by omega), hC (2220 + 4 * f + 1) (by omega) (by omega), hC (2220 + 4 * f + 2) (by omega) (by omega)]
  exact ⟨c1, c2, c3, c4, by omega⟩
/-- a FORCE more -/
theorem FCS_more (h : FCS I ri A) {n : Nat} (hn : (A 7).toInt = (n : Int)) (h30 : n < 30) {a0 a1 a2 : Int32} (h0 : 0 ≤ a0.toInt) (h6 : a0.toInt < (A 6).toInt) (e98 : I' 98 = A 7 + 1) (g7 : A' 7 = A 7 + 1) (g6 : A' 6 = A 6) (r0 : ri' 99 = upd (ri 99) n a0) (r1 : ri' 100 = upd (ri 100) n a1) (r2 : ri' 101 = upd (ri 101) n a2) (c0 : A' (2220 + 4 * n) = a0) (c1 : A' (2220 + 4 * n + 1) = a1) (c2 : A' (2220 + 4 * n + 2) = a2) (co : ∀ i, 2220 ≤ i → i < 2220 + 4 * n → A' i = A i) : FCS I' ri' A' := by
  obtain ⟨e, ⟨b0, b1⟩, h⟩ := h
  have s : (A 7 + 1).toInt = (A 7).toInt + 1 := i_add rfl (show (1 : Int32).toInt = 1 by decide) (by omega) (by omega)
  refine ⟨by rw [e98, g7], by rw [g7, s]; exact ⟨by omega, by omega⟩, fun f hf => ?_⟩
  rw [g7, s] at hf
  by_cases q : f = n
  · subst q
    rw [r0, r1, r2, upd_s, upd_s, upd_s, c0, c1, c2, g6]
    exact ⟨rfl, rfl, rfl, h0, h6⟩
  · obtain ⟨d1, d2, d3, d4, d5⟩ := h f (by omega)
    rw [r0, r1, r2, upd_n _ _ q, upd_n _ _ q, upd_n _ _ q, co (2220 + 4 * f) (by omega) (by omega), co (2220 + 4 * f + 1) (by omega) (by omega), co (2220 + 4 * f + 2) (by omega) (by omega), g6]
    exact ⟨d1, d2, d3, d4, d5⟩
def FX7 (b c : Int32 × vM) : Prop := FCS b.2.1 b.2.2.2.1 (c.2.2.2.1 384)
theorem force_FX {a0 a1 a2 : Int32} (h : FCS I ri (si 384)) (e6 : I 96 = si 384 6) (hb : 0 ≤ (si 384 6).toInt ∧ (si 384 6).toInt ≤ 10) (hc : I 320 = si 384 0) (h0 : 0 ≤ (I 320).toInt) : FX7 (g_X11_force a0 a1 a2 I J ri rj rq) (g_X12_force a0 a1 a2 U V si sj sq) := by
  have h' := h
  obtain ⟨e7, ⟨h70, h71⟩, _⟩ := h'
  have k0 : (0 : Int32).toInt = 0 := by decide
  have k30 : (30 : Int32).toInt = 30 := by decide
  have k599 : (599 : Int32).toInt = 599 := by decide
  have n7 : (7 : Int32).toNatClampNeg = 7 := by decide
  rw [g_X11_force_e, g_X12_force_e]
  simp only [↓ap1_n, between_b, isIn_b, isMonth_c, g_X11_force_K58, g_X11_force_K59_2, g_X11_force_K76_2, g_X12_force_K56, n7]
  rw [← e6, ← hc]
  have no : FX7 ((-1, I, J, ri, rj, rq) : Int32 × vM) (-1, U, V, si, sj, sq) := h
  by_cases c0 : bt a0 0 (I 96 - 1) = 0
  · rw [if_pos c0, if_pos c0]; exact no
  · rw [if_neg c0, if_neg c0]
    by_cases c1 : bt a1 (I 320) 599 = 0
    · rw [if_pos c1]
      by_cases d1 : bt a1 0 599 = 0
      · rw [if_pos d1]; exact no
      · have b1 := bt_n d1
        rw [if_neg d1]
        by_cases d2 : bt a2 0 599 = 0
        · rw [if_pos d2]; exact no
        · rw [if_neg d2]
          by_cases d3 : a1 < I 320
          · rw [if_pos d3]; exact no
          · exact absurd c1 (by
              have := bt_y (a := a1) (b := I 320) (c := 599) (by
                have : ¬ a1.toInt < (I 320).toInt := fun q => d3 (Int32.lt_iff_toInt_lt.mpr q)
                omega) b1.2
              rw [this]; decide)
    · have b1 := bt_n c1
      rw [if_neg c1, if_neg (show ¬ bt a1 0 599 = 0 by rw [bt_y (a := a1) (b := 0) (c := 599) (by omega) b1.2]; decide)]
      have d3 : ¬ a1 < I 320 := fun q => by have := Int32.lt_iff_toInt_lt.mp q; omega
      by_cases c2 : bt a2 a1 599 = 0
      · rw [if_pos c2]
        by_cases d2 : bt a2 0 599 = 0
        · rw [if_pos d2]; exact no
        · have b2 := bt_n d2
          rw [if_neg d2, if_neg d3]
          by_cases d4 : a2 < a1
          · rw [if_pos d4]; exact no
          · exact absurd c2 (by
              have := bt_y (a := a2) (b := a1) (c := 599) (by
                have : ¬ a2.toInt < a1.toInt := fun q => d4 (Int32.lt_iff_toInt_lt.mpr q)
                omega) b2.2
              rw [this]; decide)
      · have b2 := bt_n c2
        rw [if_neg c2, if_neg (show ¬ bt a2 0 599 = 0 by rw [bt_y (a := a2) (b := 0) (c := 599) (by omega) b2.2]; decide), if_neg d3, if_neg (show ¬ a2 < a1 from fun q => by have := Int32.lt_iff_toInt_lt.mp q; omega)]
        rw [g_X11_force_K59_e]
        try simp only [↓ap1_n]
        by_cases c3 : si 384 7 = 30
        · have c3' := congrArg Int32.toInt c3
          rw [if_pos c3, if_neg (show ¬ I 98 < 30 from fun q => by have := Int32.lt_iff_toInt_lt.mp q; rw [e7] at this; omega)]
          exact no
        · have l3 : (si 384 7).toInt < 30 := by
            have : (si 384 7).toInt ≠ 30 := fun q => c3 (Int32.toInt_inj.mp (q.trans k30.symm))
            omega
          have c4 : I 98 < 30 := Int32.lt_iff_toInt_lt.mpr (by rw [e7]; omega)
          rw [if_neg c3, if_pos c4, g_X3_addForce_e]
          try simp only [↓ap1_n]
          rw [if_pos c4]
          obtain ⟨n, hn⟩ : ∃ n : Nat, (si 384 7).toInt = (n : Int) := ⟨(si 384 7).toInt.toNat, by omega⟩
          have m1 : ((4 : Int32) * si 384 7).toInt = 4 * (si 384 7).toInt := i_mul (show (4 : Int32).toInt = 4 by decide) rfl (by omega) (by omega)
          have m2 : ((2220 : Int32) + 4 * si 384 7).toInt = 2220 + 4 * (si 384 7).toInt := i_add (show (2220 : Int32).toInt = 2220 by decide) m1 (by omega) (by omega)
          have m3 : ((2220 : Int32) + 4 * si 384 7 + 1).toInt = 2220 + 4 * (si 384 7).toInt + 1 := i_add m2 (show (1 : Int32).toInt = 1 by decide) (by omega) (by omega)
          have m4 : ((2220 : Int32) + 4 * si 384 7 + 2).toInt = 2220 + 4 * (si 384 7).toInt + 2 := i_add m2 (show (2 : Int32).toInt = 2 by decide) (by omega) (by omega)
          have bb := bt_n c0
          have i96 : (I 96 - 1).toInt = (I 96).toInt - 1 := i_sub rfl (show (1 : Int32).toInt = 1 by decide) (by rw [e6]; omega) (by rw [e6]; omega)
          rw [i96, k0, e6] at bb
          rw [bn_n rfl, e7, at_n hn, at_n (p := 2220 + 4 * n) (m2.trans (by omega)), at_n (p := 2220 + 4 * n + 1) (m3.trans (by omega)), at_n (p := 2220 + 4 * n + 2) (m4.trans (by omega))]
          clear m1 m2 m3 m4 i96
          refine FCS_more h hn (by omega) (a0 := a0) (a1 := a1) (a2 := a2) bb.1 (by omega) ?_ ?_ ?_ ?_ ?_ ?_ ?_ ?_ ?_ (fun i q1 q2 => ?_)
          · dsimp only
            exact va_up_self _ _ _
          · dsimp only
            rw [va_up_self, upd_s]
          · dsimp only
            rw [va_up_self, upd_n _ _ (show (6 : Nat) ≠ 7 by decide), va_up_self, upd_n _ _ (by omega), va_up_self, upd_n _ _ (by omega), va_up_self, upd_n _ _ (by omega)]
          · dsimp only
            rw [va_up_ne _ _ (show (99 : Nat) ≠ 101 by decide), va_up_ne _ _ (show (99 : Nat) ≠ 100 by decide), va_up_self]
          · dsimp only
            rw [va_up_ne _ _ (show (100 : Nat) ≠ 101 by decide), va_up_self, va_up_ne _ _ (show (100 : Nat) ≠ 99 by decide)]
          · dsimp only
            rw [va_up_self, va_up_ne _ _ (show (101 : Nat) ≠ 100 by decide), va_up_ne _ _ (show (101 : Nat) ≠ 99 by decide)]
          · dsimp only
            rw [va_up_self, upd_n _ _ (by omega), va_up_self, upd_n _ _ (by omega), va_up_self, upd_n _ _ (by omega), va_up_self, upd_s]
          · dsimp only
            rw [va_up_self, upd_n _ _ (by omega), va_up_self, upd_n _ _ (by omega), va_up_self, upd_s]
          · dsimp only
            rw [va_up_self, upd_n _ _ (by omega), va_up_self, upd_s]
          · dsimp only
            rw [va_up_self, upd_n _ _ (by omega), va_up_self, upd_n _ _ (by omega), va_up_self, upd_n _ _ (by omega), va_up_self, upd_n _ _ (by omega)]
end PX2
/-! a copy of THE LAW -/
section CPX
variable {nI : Nat → Int32} {nJ : Nat → Int64} {nR : Nat → Nat → Int32} {nL : Nat → Nat → Int64} {nQ : Nat → Nat → Option Nat}
variable {I : Nat → Int32} {J : Nat → Int64} {ri : Nat → Nat → Int32} {rj : Nat → Nat → Int64} {rq : Nat → Nat → Option Nat}
/-- the copy has the same TEXTS and FORCES -/
def QX (nI : Nat → Int32) (nR : Nat → Nat → Int32) (nQ : Nat → Nat → Option Nat) (b : vM) : Prop := b.1 96 = nI 96 ∧ b.1 98 = nI 98 ∧ (∀ t, t ∈ [99, 100, 101] → ∀ j, j < 30 → b.2.2.1 t j = nR t j) ∧ ∀ t, t < 10 → b.2.2.2.2 97 t = nQ 97 t
theorem cpx_L : ∀ (n : Nat) (x : Int32) (k : Nat) (K : Nat → Int32) (q : Nat → Nat → Option Nat), x.toInt = (k : Int) → k ≤ 10 → 10 - k < n → K 96 = nI 96 → (∀ t, t < k → q 97 t = nQ 97 t) → QX nI nR nQ (g_X3_copyFrom_L10 J ri rj nI K nQ nR n x q) := by
  intro n
  induction n with
  | zero => intro x k K q h0 h1 h2; exact absurd h2 (Nat.not_lt_zero _)
  | succ n ih =>
    intro x k K q h0 h1 h2 h3 h4
    have k10 : (10 : Int32).toInt = ((10 : Nat) : Int) := by decide
    rw [g_X3_copyFrom_L10_e]
    by_cases c : (10 : Int32) ≤ x
    · have c1 := (le_n k10 h0).mp c
      rw [if_pos c]
      try simp only [↓ap1_n]
      refine ⟨?_, ?_, fun t ht j hj => ?_, fun t ht => h4 t (by omega)⟩
      · show va_up K 98 (nI 98) 96 = nI 96
        rw [va_up_ne _ _ (show (96 : Nat) ≠ 98 by decide)]; exact h3
      · show va_up K 98 (nI 98) 98 = nI 98
        exact va_up_self _ _ _
      · dsimp only
        have d : t = 99 ∨ t = 100 ∨ t = 101 := by simpa using ht
        rcases d with d | d | d
        · subst d
          rw [va_up_ne _ _ (show (99 : Nat) ≠ 101 by decide), va_up_ne _ _ (show (99 : Nat) ≠ 100 by decide), va_up_self]
          exact cpy_v hj
        · subst d
          rw [va_up_ne _ _ (show (100 : Nat) ≠ 101 by decide), va_up_self]
          exact cpy_v hj
        · subst d
          rw [va_up_self]
          exact cpy_v hj
    · have c1 : ¬ 10 ≤ k := fun y => c ((le_n k10 h0).mpr y)
      have hn : (x + Int32.ofInt 1).toInt = ((k + 1 : Nat) : Int) := up_i h0 (by omega)
      have st : ∀ (o : Option Nat), nQ 97 k = o → ∀ t, t < k + 1 → va_up q 97 (va_up (q 97) k o) 97 t = nQ 97 t := fun o ho t ht => by
        rw [va_up_self]
        by_cases z : t = k
        · rw [z, va_up_self, ho]
        · rw [va_up_ne _ _ z]; exact h4 t (by omega)
      rw [if_neg c, at_n h0]
      cases e : nQ 97 k with
      | none =>
        rw [op_0]
        try simp only [↓ap1_n]
        exact ih _ (k + 1) _ _ hn (by omega) (by omega) h3 (st none e)
      | some w =>
        rw [op_1]
        try simp only [↓ap1_n]
        exact ih _ (k + 1) _ _ hn (by omega) (by omega) h3 (st (some w) e)
theorem cpxt : QX nI nR nQ (g_X3_copyFrom nI nR nQ I J ri rj rq) := by
  rw [g_X3_copyFrom_e]
  try simp only [↓ap1_n]
  exact cpx_L _ 0 0 _ _ (show (0 : Int32).toInt = ((0 : Nat) : Int) by decide) (by decide) (by decide) (va_up_self _ _ _) (fun t ht => absurd ht (Nat.not_lt_zero _))
theorem copyFrom_x : QX nI nR nQ (g_X10_copyFrom nI nJ nR nL nQ I J ri rj rq) := by
  rw [g_X10_copyFrom_e]
  simp only [↓ap1_n]
  refine bV_all (fun _ _ _ _ _ => ?_)
  refine bV_all (fun _ _ _ _ _ => ?_)
  refine bV_all (fun _ _ _ _ _ => ?_)
  refine bV_to (P := QX nI nR nQ) (Q := QX nI nR nQ) cpxt (fun Ia _ ra _ qa h1 => ?_)
  refine bV_of (P := QX nI nR nQ) g_X1_copyFrom_f (fun Ic _ rc _ qc h4 => ?_)
  have y1 : Ic 96 = Ia 96 := h4.1 96 (by decide)
  have y2 : Ic 98 = Ia 98 := h4.1 98 (by decide)
  have y3 : ∀ t, t ∈ [99, 100, 101] → rc t = ra t := fun t ht => h4.2.2.1 t ((by decide : ∀ t, t ∈ [99, 100, 101] → t ∉ w_X1_copyFrom.2.2.1) t ht)
  have y4 : qc 97 = qa 97 := h4.2.2.2.2 97 (by decide)
  exact ⟨y1.trans h1.1, y2.trans h1.2.1, fun t ht j hj => (congrFun (y3 t ht) j).trans (h1.2.2.1 t ht j hj), fun t ht => h1.2.2.2 t ht⟩
theorem image_x {r : Int32} {I1 : Nat → Int32} {J1 : Nat → Int64} {r1 : Nat → Nat → Int32} {l1 : Nat → Nat → Int64} {q1 : Nat → Nat → Option Nat} (e : g_X11_image nI nJ nR nL nQ I J ri rj rq = (r, I1, J1, r1, l1, q1)) : QX nI nR nQ (I1, J1, r1, l1, q1) := by
  have h : QX nI nR nQ (g_X10_copyFrom nI nJ nR nL nQ I J ri rj rq) := copyFrom_x
  rw [g_X11_image_e] at e
  generalize g_X10_copyFrom nI nJ nR nL nQ I J ri rj rq = p at h e
  obtain ⟨a, b, c, d, f⟩ := p
  have e2 : ((nI 320, a, b, c, d, f) : Int32 × vM) = (r, I1, J1, r1, l1, q1) := e
  exact (Prod.mk.inj e2).2 ▸ h
theorem back_x {r : Int32} {I1 : Nat → Int32} {J1 : Nat → Int64} {r1 : Nat → Nat → Int32} {l1 : Nat → Nat → Int64} {q1 : Nat → Nat → Option Nat} (e : g_X11_back nI nJ nR nL nQ I J ri rj rq = (r, I1, J1, r1, l1, q1)) : QX nI nR nQ (I1, J1, r1, l1, q1) := by
  have h : QX nI nR nQ (g_X10_copyFrom nI nJ nR nL nQ I J ri rj rq) := copyFrom_x
  rw [g_X11_back_e] at e
  generalize g_X10_copyFrom nI nJ nR nL nQ I J ri rj rq = p at h e
  obtain ⟨a, b, c, d, f⟩ := p
  have e2 : ((a 320, a, b, c, d, f) : Int32 × vM) = (r, I1, J1, r1, l1, q1) := e
  exact (Prod.mk.inj e2).2 ▸ h
end CPX
