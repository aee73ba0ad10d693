/-! ===== the reference: a force is laid ===== -/
theorem TX_sp {f g : Nat → Int32} (h : GA f) (hg : ∀ j, (zn j = 6 ∨ (900 ≤ zn j ∧ zn j < 999)) → g j = f j) : TXT g := by
  have h6 : g 6 = f 6 := hg 6 (Or.inl zn_6)
  have r6 := GA_r h zn_6 (lo := 0) (hi := 10) rfl
  obtain ⟨r6a, r6b⟩ := r6
  intro t ht c hc h1 h2
  rw [h6] at ht
  have ht10 : t < 10 := by omega
  have e0 : zn (3720 + 900 * t) = 900 := zn_t0 rfl ht10
  have g0 : g (3720 + 900 * t) = f (3720 + 900 * t) := hg _ (by rw [e0]; exact Or.inr (by decide))
  rw [g0] at hc
  have r0 := GA_r h e0 (lo := 0) (hi := 20) rfl
  obtain ⟨r0a, r0b⟩ := r0
  have hc20 : c < 20 := by omega
  have gk : ∀ k, k < 12 → g (3721 + 900 * t + 12 * c + k) = f (3721 + 900 * t + 12 * c + k) := fun k hk => hg _ (by rw [zn_tc rfl ht10 hc20 hk]; exact Or.inr ⟨by omega, by omega⟩)
  have gk0 : g (3721 + 900 * t + 12 * c) = f (3721 + 900 * t + 12 * c) := gk 0 (by decide)
  rw [gk0] at h1 h2
  obtain ⟨w1, w2, w3, w4⟩ := h.2.1 t ht c hc h1 h2
  rw [gk 2 (by decide), gk 3 (by decide)]
  refine ⟨w1, w2, w3, ?_⟩
  rw [rnn_cg _ (fun j hj => ?_)]
  · exact w4
  · refine hg _ ?_
    have z1 := clampE (f (3721 + 900 * t + 12 * c + 2))
    have z2 := clampE (f (3721 + 900 * t + 12 * c + 3))
    have ez : zn (3970 + 900 * t + 2 * (f (3721 + 900 * t + 12 * c + 2)).toNatClampNeg + 2 * j) = 930 + 0 := zn_tk (c := (f (3721 + 900 * t + 12 * c + 2)).toNatClampNeg + j) (by omega) ht10 (by omega) (by decide)
    rw [ez]
    exact Or.inr (by decide)
theorem GA_f0 {f : Nat → Int32} (h : GA f) {n : Nat} {x : Int32} {lo hi : Int} (hn : (f 7).toInt ≤ (n : Int)) (hn30 : n < 30) (e2 : rzt 600 = (lo, hi)) (hx : rg x lo hi) : GA (upd f (2220 + 4 * n) x) := by
  have e : zn (2220 + 4 * n) = 600 := zn_FORCE (k := 0) rfl hn30 (by decide)
  refine ⟨⟨fun j => ?_, fun j hj => ?_⟩, TX_sp h (fun j hj => GA_ne e (fun q => by omega)), fun q hq => ?_⟩
  · unfold upd
    split
    · next q => rw [q, e, e2]; exact hx
    · exact h.1.1 j
  · unfold upd
    split
    · next q => rw [q, e] at hj; exact absurd hj (by decide)
    · exact h.1.2 j hj
  · have e7 : upd f (2220 + 4 * n) x 7 = f 7 := by unfold upd; rw [if_neg (by omega)]
    have e6 : upd f (2220 + 4 * n) x 6 = f 6 := by unfold upd; rw [if_neg (by omega)]
    rw [e7] at hq
    have eq : upd f (2220 + 4 * n) x (2220 + 4 * q) = f (2220 + 4 * q) := by unfold upd; rw [if_neg (by omega)]
    rw [eq, e6]
    exact h.2.2 q hq
theorem GA_f7 {f : Nat → Int32} (h : GA f) {n : Nat} {x : Int32} (hn : (f 7).toInt = (n : Int)) (ex : x.toInt = (n : Int) + 1) (hx : rg x 0 30) (hf : (f (2220 + 4 * n)).toInt < (f 6).toInt) : GA (upd f 7 x) := by
  refine ⟨⟨fun j => ?_, fun j hj => ?_⟩, TX_sp h (fun j hj => GA_ne zn_7 (fun q => by omega)), fun q hq => ?_⟩
  · unfold upd
    split
    · next q => rw [q, zn_7]; exact hx
    · exact h.1.1 j
  · unfold upd
    split
    · next q => rw [q, zn_7] at hj; exact absurd hj (by decide)
    · exact h.1.2 j hj
  · have e7 : upd f 7 x 7 = x := by unfold upd; rw [if_pos rfl]
    have e6 : upd f 7 x 6 = f 6 := by unfold upd; rw [if_neg (by omega)]
    have eq : upd f 7 x (2220 + 4 * q) = f (2220 + 4 * q) := by unfold upd; rw [if_neg (by omega)]
    rw [e7] at hq
    rw [eq, e6]
    by_cases hh : q = n
    · rw [hh]; exact hf
    · exact h.2.2 q (by omega)
theorem GM.wf0 {X : List Nat} {tg : Nat → Nat} {σ : pq_S} {I0 r0 I ri r1 : Nat → Nat → Int32} {rq : Nat → Nat → Option Nat} (h : GM X tg σ I0 r0 I ri rq) {q t : Nat} {v x : Int32} {lo hi : Int} (ht : tg q = t) (hz : zt t = true ∧ rAm t = (-2147483648, 2147483647)) (e1 : r1 = va_up ri q (upd (ri q) v.toNatClampNeg x)) {n : Nat} (hv : v.toNatClampNeg = 2220 + 4 * n) (hn30 : n < 30) (hn : (ri q 7).toInt ≤ (n : Int)) (e2 : rzt 600 = (lo, hi)) (hx : rg x lo hi) (hX : 1600 ∈ X ∧ ∀ p ∈ frl, p.1 = t → p.2 ∈ X) : GM X tg σ I0 r0 I r1 rq := GM.wz0 h ht hz.1 hz.2 e1 (k := 600) (by rw [hv]; exact zn_FORCE (k := 0) rfl hn30 (by decide)) e2 hx ⟨Or.inr hX.1, hX.2⟩ (fun hG => by rw [hv]; exact GA_f0 hG hn hn30 e2 hx) (fun q => absurd q (by decide))
theorem GM.wf7 {X : List Nat} {tg : Nat → Nat} {σ : pq_S} {I0 r0 I ri r1 : Nat → Nat → Int32} {rq : Nat → Nat → Option Nat} (h : GM X tg σ I0 r0 I ri rq) {q t : Nat} {v x : Int32} (ht : tg q = t) (hz : zt t = true ∧ rAm t = (-2147483648, 2147483647)) (e1 : r1 = va_up ri q (upd (ri q) v.toNatClampNeg x)) (hv : v.toNatClampNeg = 7) {n : Nat} (hn : (ri q 7).toInt = (n : Int)) (ex : x.toInt = (n : Int) + 1) (hx : rg x 0 30) (hf : (ri q (2220 + 4 * n)).toInt < (ri q 6).toInt) (hX : 1007 ∈ X ∧ ∀ p ∈ frl, p.1 = t → p.2 ∈ X) : GM X tg σ I0 r0 I r1 rq := GM.wz0 h ht hz.1 hz.2 e1 (k := 7) (by rw [hv]; exact zn_7) (lo := 0) (hi := 30) rfl hx ⟨Or.inr hX.1, hX.2⟩ (fun hG => by rw [hv]; exact GA_f7 hG hn ex hx hf) (fun q => absurd q (by decide))
theorem fc_eq {r r1 : Nat → Nat → Int32} {q n : Nat} {v x : Int32} (e1 : r1 = va_up r q (upd (r q) v.toNatClampNeg x)) (hv : v.toNatClampNeg = 2220 + 4 * n) : r1 q (2220 + 4 * n) = x := by
  rw [e1, va_up_self, hv]; unfold upd; rw [if_pos rfl]
theorem fc_ne {r r1 : Nat → Nat → Int32} {q n : Nat} {v x z : Int32} (e1 : r1 = va_up r q (upd (r q) v.toNatClampNeg x)) (hv : v.toNatClampNeg ≠ 2220 + 4 * n) (h : r q (2220 + 4 * n) = z) : r1 q (2220 + 4 * n) = z := by
  rw [e1, va_up_self]; unfold upd; rw [if_neg (fun e => hv e.symm)]; exact h
