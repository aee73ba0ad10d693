/-! ===== the reference's parser: its state, step by step ===== -/
/-- what holds between two tokens: t the text's place, w how many words are written, o what is open, s the place of the scanner, k the token -/
def PBz (t w o s k : Int) (f : Nat → Int32) (bb : Nat) (f0 : Nat → Int32) (fr va tb nn K : Int) : Prop := (t = 3720 + 900 * (f 6).toInt ∧ 0 ≤ (f 6).toInt ∧ (f 6).toInt ≤ 9) ∧ ((bb : Int) = 3970 + 900 * (f 6).toInt + 2 * fr ∧ 0 ≤ fr ∧ fr ≤ w) ∧ (∀ j : Nat, j < bb → f j = f0 j) ∧ oN f bb fr w ∧ vN f bb fr w = va ∧ tN f bb fr w = tb ∧ (o = nn ∧ 0 ≤ nn ∧ nn ≤ 8 ∧ 0 ≤ K) ∧ (w + K ≤ s ∧ (k ≠ 0 → w + K + 1 ≤ s) ∧ s ≤ 300)
/-- the same in a sum: p how many are in the pile g -/
def PSz (t w p o s k : Int) (f g : Nat → Int32) (bb : Nat) (f0 : Nat → Int32) (fr ba tb nn K iw : Int) : Prop := PBz t w o s k f bb f0 fr (ba + (p - cO g p.toNat) + iw) tb (nn + cO g p.toNat) (K + p) ∧ LPs g p.toNat ∧ 0 ≤ p ∧ 0 ≤ nn ∧ 0 ≤ K ∧ 0 ≤ ba
def tmM (s k : Int) : Int := 2 * (300 - s) + (if k = 0 then 0 else 1)
theorem tm_lt {s k s1 k1 : Int} (hk : k ≠ 0) (h : s ≤ s1) (h2 : k1 = 0 ∨ s + 1 ≤ s1) : tmM s1 k1 < tmM s k := by
  unfold tmM
  rw [if_neg hk]
  split <;> omega
theorem tm_b {s k : Int} (h : s ≤ 300) : 0 ≤ tmM s k := by
  unfold tmM
  split <;> omega
section PZ
variable {t w p o s k t1 w1 p1 o1 s1 k1 : Int} {f g f1 g1 f0 : Nat → Int32} {bb : Nat} {fr va ba tb nn K iw va1 tb1 : Int} {x : Int32}
theorem PBz_cg (h : PBz t w o s k f bb f0 fr va tb nn K) (et : t1 = t) (ew : w1 = w) (eo : o1 = o) (es : s1 = s) (ek : k1 = k) (ef : f1 = f) : PBz t1 w1 o1 s1 k1 f1 bb f0 fr va tb nn K := by
  rw [et, ew, eo, es, ek, ef]; exact h
theorem PSz_cg (h : PSz t w p o s k f g bb f0 fr ba tb nn K iw) (et : t1 = t) (ew : w1 = w) (ep : p1 = p) (eo : o1 = o) (es : s1 = s) (ek : k1 = k) (ef : f1 = f) (eg : g1 = g) : PSz t1 w1 p1 o1 s1 k1 f1 g1 bb f0 fr ba tb nn K iw := by
  rw [et, ew, ep, eo, es, ek, ef, eg]; exact h
theorem PBz_K {K1 : Int} (h : PBz t w o s k f bb f0 fr va tb nn K) (h1 : K1 ≤ K) (h2 : 0 ≤ K1) : PBz t w o s k f bb f0 fr va tb nn K1 := by
  obtain ⟨a1, a2, a3, a4, a5, a6, a7, a8⟩ := h
  exact ⟨a1, a2, a3, a4, a5, a6, ⟨a7.1, a7.2.1, a7.2.2.1, h2⟩, by omega, fun q => by have := a8.2.1 q; omega, a8.2.2⟩
theorem PBz_tok (h : PBz t w o s k f bb f0 fr va tb nn K) (hk : k ≠ 0) (h1 : s ≤ s1) (h2 : k1 = 0 ∨ s + 1 ≤ s1) (h3 : s1 ≤ 300) (et : t1 = t) (ew : w1 = w) (eo : o1 = o) (ef : f1 = f) : PBz t1 w1 o1 s1 k1 f1 bb f0 fr va tb nn (K + 1) := by
  rw [et, ew, eo, ef]
  obtain ⟨a1, a2, a3, a4, a5, a6, a7, a8⟩ := h
  have h8 := a8.2.1 hk
  exact ⟨a1, a2, a3, a4, a5, a6, ⟨a7.1, a7.2.1, a7.2.2.1, by omega⟩, by omega, fun q => by omega, h3⟩
theorem PBz_w (h : PBz t w o s k f bb f0 fr va tb nn K) (hk : k ≠ 0 ∨ 1 ≤ K) : 0 ≤ w ∧ w ≤ 299 := by
  obtain ⟨a1, a2, a3, a4, a5, a6, a7, a8⟩ := h
  rcases hk with q | q
  · have := a8.2.1 q; omega
  · omega
theorem PBz_em0 (h : PBz t w o s k f bb f0 fr va tb nn K) (hg : ∀ j : Nat, (j : Int) < t + 250 + 2 * w → f1 j = f j) (hat : f1 (t + 250 + 2 * w).toNat = x) (hr : (x.toInt ≤ 1 ∧ va1 = va + 1 ∧ tb1 = tb) ∨ (x.toInt = 2 ∧ 1 ≤ va ∧ va1 = va ∧ tb1 = tb) ∨ ((2 < x.toInt ∧ x.toInt < 10) ∧ 2 ≤ va ∧ va1 = va - 1 ∧ tb1 = tb) ∨ ((10 ≤ x.toInt ∧ x.toInt < 20) ∧ 2 ≤ va ∧ va1 = va - 2 ∧ tb1 = tb + 1) ∨ (x.toInt = 20 ∧ 1 ≤ tb ∧ va1 = va ∧ tb1 = tb) ∨ (20 < x.toInt ∧ 2 ≤ tb ∧ va1 = va ∧ tb1 = tb - 1)) : (t = 3720 + 900 * (f1 6).toInt ∧ 0 ≤ (f1 6).toInt ∧ (f1 6).toInt ≤ 9) ∧ ((bb : Int) = 3970 + 900 * (f1 6).toInt + 2 * fr ∧ 0 ≤ fr ∧ fr ≤ w + 1) ∧ (∀ j : Nat, j < bb → f1 j = f0 j) ∧ oN f1 bb fr (w + 1) ∧ vN f1 bb fr (w + 1) = va1 ∧ tN f1 bb fr (w + 1) = tb1 := by
  obtain ⟨a1, a2, a3, a4, a5, a6, a7, a8⟩ := h
  have e6 : f1 6 = f 6 := hg 6 (by omega)
  have hb : ∀ j : Nat, (j : Int) < w - fr → f1 (bb + 2 * j) = f (bb + 2 * j) := fun j hj => hg _ (by omega)
  have he : f1 (bb + 2 * (w - fr).toNat) = x := by
    rw [show bb + 2 * (w - fr).toNat = (t + 250 + 2 * w).toNat from by omega]; exact hat
  have hq : (x.toInt = 2 → 1 ≤ vN f bb fr w) ∧ (2 < x.toInt ∧ x.toInt < 20 → 2 ≤ vN f bb fr w) ∧ (x.toInt = 20 → 1 ≤ tN f bb fr w) ∧ (20 < x.toInt → 2 ≤ tN f bb fr w) := by
    rw [a5, a6]
    exact ⟨fun q => by omega, fun q => by omega, fun q => by omega, fun q => by omega⟩
  obtain ⟨b0, b1, b2, b3, b4, b5, b6⟩ := em_all a2.2.2 hb he a4 hq
  rw [a5, a6] at b1 b2 b3 b4 b5 b6
  refine ⟨by rw [e6]; exact a1, by rw [e6]; omega, fun j hj => (hg j (by omega)).trans (a3 j hj), b0, ?_⟩
  rcases hr with ⟨q, q2, q3⟩ | ⟨q, q1, q2, q3⟩ | ⟨q, q1, q2, q3⟩ | ⟨q, q1, q2, q3⟩ | ⟨q, q1, q2, q3⟩ | ⟨q, q1, q2, q3⟩
  · have := b1 q; exact ⟨by omega, by omega⟩
  · have := b2 q; exact ⟨by omega, by omega⟩
  · have := b3 q; exact ⟨by omega, by omega⟩
  · have := b4 q; exact ⟨by omega, by omega⟩
  · have := b5 q; exact ⟨by omega, by omega⟩
  · have := b6 q; exact ⟨by omega, by omega⟩
/-- a word is written, for which a token is to spare -/
theorem PBz_em (h : PBz t w o s k f bb f0 fr va tb nn (K + 1)) (hK : 0 ≤ K) (hg : ∀ j : Nat, (j : Int) < t + 250 + 2 * w → f1 j = f j) (hat : f1 (t + 250 + 2 * w).toNat = x) (hr : (x.toInt ≤ 1 ∧ va1 = va + 1 ∧ tb1 = tb) ∨ (x.toInt = 2 ∧ 1 ≤ va ∧ va1 = va ∧ tb1 = tb) ∨ ((2 < x.toInt ∧ x.toInt < 10) ∧ 2 ≤ va ∧ va1 = va - 1 ∧ tb1 = tb) ∨ ((10 ≤ x.toInt ∧ x.toInt < 20) ∧ 2 ≤ va ∧ va1 = va - 2 ∧ tb1 = tb + 1) ∨ (x.toInt = 20 ∧ 1 ≤ tb ∧ va1 = va ∧ tb1 = tb) ∨ (20 < x.toInt ∧ 2 ≤ tb ∧ va1 = va ∧ tb1 = tb - 1)) (et : t1 = t) (ew : w1 = w + 1) (eo : o1 = o) (es : s1 = s) (ek : k1 = k) : PBz t1 w1 o1 s1 k1 f1 bb f0 fr va1 tb1 nn K := by
  obtain ⟨c1, c2, c3, c4, c5, c6⟩ := PBz_em0 h hg hat hr
  obtain ⟨a1, a2, a3, a4, a5, a6, a7, a8⟩ := h
  rw [et, ew, eo, es, ek]
  exact ⟨c1, c2, c3, c4, c5, c6, ⟨a7.1, a7.2.1, a7.2.2.1, hK⟩, by omega, fun q => by have := a8.2.1 q; omega, a8.2.2⟩
/-- a word is written for the token at hand, and the next one comes -/
theorem PBz_emt (h : PBz t w o s k f bb f0 fr va tb nn K) (hk : k ≠ 0) (hg : ∀ j : Nat, (j : Int) < t + 250 + 2 * w → f1 j = f j) (hat : f1 (t + 250 + 2 * w).toNat = x) (hx : x.toInt ≤ 1) (h1 : s ≤ s1) (h2 : k1 = 0 ∨ s + 1 ≤ s1) (h3 : s1 ≤ 300) (et : t1 = t) (ew : w1 = w + 1) (eo : o1 = o) : PBz t1 w1 o1 s1 k1 f1 bb f0 fr (va + 1) tb nn K := by
  obtain ⟨c1, c2, c3, c4, c5, c6⟩ := PBz_em0 (va1 := va + 1) (tb1 := tb) h hg hat (Or.inl ⟨hx, rfl, rfl⟩)
  obtain ⟨a1, a2, a3, a4, a5, a6, a7, a8⟩ := h
  have h8 := a8.2.1 hk
  rw [et, ew, eo]
  exact ⟨c1, c2, c3, c4, c5, c6, a7, by omega, fun q => by omega, h3⟩
theorem PBz_o (h : PBz t w o s k f bb f0 fr va tb nn K) {o2 n2 : Int} (e : o2 = n2) (h0 : 0 ≤ n2) (h8 : n2 ≤ 8) : PBz t w o2 s k f bb f0 fr va tb n2 K := by
  obtain ⟨a1, a2, a3, a4, a5, a6, a7, a8⟩ := h
  exact ⟨a1, a2, a3, a4, a5, a6, ⟨e, h0, h8, a7.2.2.2⟩, a8⟩
theorem PBz_tv (h : PBz t w o s k f bb f0 fr va tb nn K) : 0 ≤ va ∧ 0 ≤ tb := by
  obtain ⟨a1, a2, a3, a4, a5, a6, a7, a8⟩ := h
  have := oN_b a4 a2.2.2
  omega
theorem PBz_op (h : PBz t w o s k f bb f0 fr va tb nn K) : o = nn ∧ 0 ≤ nn ∧ nn ≤ 8 ∧ 0 ≤ K := h.2.2.2.2.2.2.1
theorem PBz_t (h : PBz t w o s k f bb f0 fr va tb nn K) : t = 3720 + 900 * (f 6).toInt ∧ 0 ≤ (f 6).toInt ∧ (f 6).toInt ≤ 9 := h.1
/-- a sum begins, a sum ends -/
theorem PSz_0 (h : PBz t w o s k f bb f0 fr va tb nn K) (g : Nat → Int32) (hv : 0 ≤ va) (ep : p1 = 0) : PSz t w p1 o s k f g bb f0 fr va tb nn K 0 := by
  subst ep
  have z : (0 : Int).toNat = 0 := rfl
  have c0 : cO g 0 = 0 := rfl
  unfold PSz
  rw [z, c0]
  have e1 : va + (0 - 0) + 0 = va := by omega
  have e2 : nn + 0 = nn := by omega
  have e3 : K + 0 = K := by omega
  rw [e1, e2, e3]
  exact ⟨h, fun j hj => absurd hj (Nat.not_lt_zero _), Int.le_refl _, (PBz_op h).2.1, (PBz_op h).2.2.2, hv⟩
theorem PSz_e (h : PSz t w p o s k f g bb f0 fr ba tb nn K 1) (ep : p = 0) : PBz t w o s k f bb f0 fr (ba + 1) tb nn K := by
  subst ep
  have z : (0 : Int).toNat = 0 := rfl
  have c0 : cO g 0 = 0 := rfl
  have h1 := h.1
  rw [z, c0] at h1
  have e1 : ba + (0 - 0) + 1 = ba + 1 := by omega
  have e2 : nn + 0 = nn := by omega
  have e3 : K + 0 = K := by omega
  rw [e1, e2, e3] at h1
  exact h1
theorem PSz_bd (h : PSz t w p o s k f g bb f0 fr ba tb nn K iw) : p ≤ 26 ∧ 0 ≤ p ∧ 0 ≤ cO g p.toNat ∧ cO g p.toNat ≤ p ∧ o = nn + cO g p.toNat ∧ o ≤ 8 ∧ 0 ≤ nn := by
  obtain ⟨h1, h2, h3, h4, h5, h6⟩ := h
  have b1 := (LP_bd _ h2).1
  have b2 := PBz_op h1
  have b3 := cO_b g p.toNat
  omega
theorem PSz_w (h : PSz t w p o s k f g bb f0 fr ba tb nn K iw) (hk : k ≠ 0 ∨ 1 ≤ p) : 0 ≤ w ∧ w ≤ 299 := by
  obtain ⟨h1, h2, h3, h4, h5, h6⟩ := h
  exact PBz_w h1 (hk.elim Or.inl (fun q => Or.inr (by omega)))
theorem PSz_t (h : PSz t w p o s k f g bb f0 fr ba tb nn K iw) : t = 3720 + 900 * (f 6).toInt ∧ 0 ≤ (f 6).toInt ∧ (f 6).toInt ≤ 9 := PBz_t h.1
/-- one is named or numbered -/
theorem PSz_one (h : PSz t w p o s k f g bb f0 fr ba tb nn K 0) (hk : k ≠ 0) (hg : ∀ j : Nat, (j : Int) < t + 250 + 2 * w → f1 j = f j) (hat : f1 (t + 250 + 2 * w).toNat = x) (hx : x.toInt ≤ 1) (h1 : s ≤ s1) (h2 : k1 = 0 ∨ s + 1 ≤ s1) (h3 : s1 ≤ 300) (et : t1 = t) (ew : w1 = w + 1) (ep : p1 = p) (eo : o1 = o) (eg : g1 = g) : PSz t1 w1 p1 o1 s1 k1 f1 g1 bb f0 fr ba tb nn K 1 := by
  rw [ep, eg]
  refine ⟨?_, h.2⟩
  have q := PBz_emt h.1 hk hg hat hx h1 h2 h3 et ew eo
  rw [show ba + (p - cO g p.toNat) + 0 + 1 = ba + (p - cO g p.toNat) + 1 from by omega] at q
  exact q
/-- a bracket or a sign is opened, and the next token comes -/
theorem PSz_open (h : PSz t w p o s k f g bb f0 fr ba tb nn K 0) (hk : k ≠ 0) (h8 : o ≠ 8) (hx : x.toInt = 2 ∨ x.toInt = 40) (h1 : s ≤ s1) (h2 : k1 = 0 ∨ s + 1 ≤ s1) (h3 : s1 ≤ 300) (et : t1 = t) (ew : w1 = w) (ep : p1 = p + 1) (eo : o1 = o + 1) (ef : f1 = f) (eg : g1 = upd g p.toNat x) : PSz t1 w1 p1 o1 s1 k1 f1 g1 bb f0 fr ba tb nn K 0 := by
  obtain ⟨a0, a2, a3, a4, a5, a6⟩ := h
  have b2 := PBz_op a0
  have e1 : p1.toNat = p.toNat + 1 := by omega
  have c1 : cO g1 p1.toNat = cO g p.toNat + 1 := by rw [e1, cO_push eg, if_pos hx]
  refine ⟨?_, ?_, by omega, a4, a5, a6⟩
  · have q := PBz_tok a0 hk h1 h2 h3 (f1 := f1) et ew rfl ef
    have q2 := PBz_o q (o2 := o1) (n2 := nn + cO g1 p1.toNat) (by omega) (by omega) (by omega)
    rw [show ba + (p1 - cO g1 p1.toNat) + 0 = ba + (p - cO g p.toNat) + 0 from by omega, show K + p1 = K + p + 1 from by omega]
    exact q2
  · rw [e1]
    exact LP_push a2 eg (by omega) (fun q => absurd hx q)
theorem PSz_tok (h : PSz t w p o s k f g bb f0 fr ba tb nn K iw) (hk : k ≠ 0) (h1 : s ≤ s1) (h2 : k1 = 0 ∨ s + 1 ≤ s1) (h3 : s1 ≤ 300) (et : t1 = t) (ew : w1 = w) (ep : p1 = p) (eo : o1 = o) (ef : f1 = f) (eg : g1 = g) : PSz t1 w1 p1 o1 s1 k1 f1 g1 bb f0 fr ba tb nn (K + 1) iw := by
  rw [ep, eg]
  obtain ⟨a0, a2, a3, a4, a5, a6⟩ := h
  have q := PBz_tok a0 hk h1 h2 h3 (f1 := f1) et ew eo ef
  rw [show K + p + 1 = K + 1 + p from by omega] at q
  exact ⟨q, a2, a3, a4, by omega, a6⟩
/-- a minus goes from the pile to the code -/
theorem PSz_popO (h : PSz t w p o s k f g bb f0 fr ba tb nn K 1) (hp : 0 < p) (ht : (g (p.toNat - 1)).toInt = 2) (hx : x.toInt = 2) (hg : ∀ j : Nat, (j : Int) < t + 250 + 2 * w → f1 j = f j) (hat : f1 (t + 250 + 2 * w).toNat = x) (et : t1 = t) (ew : w1 = w + 1) (ep : p1 = p - 1) (eo : o1 = o - 1) (es : s1 = s) (ek : k1 = k) (eg : g1 = g) : PSz t1 w1 p1 o1 s1 k1 f1 g1 bb f0 fr ba tb nn K 1 := by
  rw [eg]
  obtain ⟨a0, a2, a3, a4, a5, a6⟩ := h
  have b2 := PBz_op a0
  have e1 : p.toNat = p1.toNat + 1 := by omega
  have c1 : cO g p.toNat = cO g p1.toNat + 1 := by
    rw [e1]
    exact cO_o (Or.inl (by rw [show p1.toNat = p.toNat - 1 from by omega]; exact ht))
  have c2 := cO_b g p1.toNat
  refine ⟨?_, LP_le a2 (by omega), by omega, a4, a5, a6⟩
  have a1 : PBz t w o s k f bb f0 fr (ba + (p - cO g p.toNat) + 1) tb (nn + cO g p.toNat) (K + p1 + 1) := by
    rw [show K + p1 + 1 = K + p from by omega]; exact a0
  have q := PBz_em (va1 := ba + (p - cO g p.toNat) + 1) (tb1 := tb) a1 (by omega) hg hat (Or.inr (Or.inl ⟨hx, by omega, rfl, rfl⟩)) et ew (o1 := o) rfl es ek
  have q2 := PBz_o q (o2 := o1) (n2 := nn + cO g p1.toNat) (by omega) (by omega) (by omega)
  rw [show ba + (p1 - cO g p1.toNat) + 1 = ba + (p - cO g p.toNat) + 1 from by omega]
  exact q2
/-- an operator of two goes from the pile to the code -/
theorem PSz_popB (h : PSz t w p o s k f g bb f0 fr ba tb nn K 1) (hp : 0 < p) (ht : g (p.toNat - 1) = x) (hx : 3 ≤ x.toInt ∧ x.toInt ≤ 6) (hg : ∀ j : Nat, (j : Int) < t + 250 + 2 * w → f1 j = f j) (hat : f1 (t + 250 + 2 * w).toNat = x) (et : t1 = t) (ew : w1 = w + 1) (ep : p1 = p - 1) (eo : o1 = o) (es : s1 = s) (ek : k1 = k) (eg : g1 = g) : PSz t1 w1 p1 o1 s1 k1 f1 g1 bb f0 fr ba tb nn K 1 := by
  rw [eg]
  obtain ⟨a0, a2, a3, a4, a5, a6⟩ := h
  have b2 := PBz_op a0
  have e1 : p.toNat = p1.toNat + 1 := by omega
  have c1 : cO g p.toNat = cO g p1.toNat := by
    rw [e1]
    refine cO_n (fun q => ?_)
    unfold isO at q
    rw [show p1.toNat = p.toNat - 1 from by omega, ht] at q
    omega
  have c2 := cO_b g p1.toNat
  refine ⟨?_, LP_le a2 (by omega), by omega, a4, a5, a6⟩
  have a1 : PBz t w o s k f bb f0 fr (ba + (p - cO g p.toNat) + 1) tb (nn + cO g p.toNat) (K + p1 + 1) := by
    rw [show K + p1 + 1 = K + p from by omega]; exact a0
  have q := PBz_em (va1 := ba + (p1 - cO g p1.toNat) + 1) (tb1 := tb) a1 (by omega) hg hat (Or.inr (Or.inr (Or.inl ⟨by omega, by omega, by omega, rfl⟩))) et ew eo es ek
  rw [← c1]
  rw [← c1] at q
  exact q
/-- a bracket is closed -/
theorem PSz_close (h : PSz t w p o s k f g bb f0 fr ba tb nn (K + 1) 1) (hK : 0 ≤ K) (hp : 0 < p) (ht : isO (g (p.toNat - 1))) (et : t1 = t) (ew : w1 = w) (ep : p1 = p - 1) (eo : o1 = o - 1) (es : s1 = s) (ek : k1 = k) (ef : f1 = f) (eg : g1 = g) : PSz t1 w1 p1 o1 s1 k1 f1 g1 bb f0 fr ba tb nn K 1 := by
  rw [et, ew, es, ek, ef, eg]
  obtain ⟨a0, a2, a3, a4, a5, a6⟩ := h
  have b2 := PBz_op a0
  have e1 : p.toNat = p1.toNat + 1 := by omega
  have c1 : cO g p.toNat = cO g p1.toNat + 1 := by
    rw [e1]
    exact cO_o (by rw [show p1.toNat = p.toNat - 1 from by omega]; exact ht)
  have c2 := cO_b g p1.toNat
  refine ⟨?_, LP_le a2 (by omega), by omega, a4, hK, a6⟩
  have q2 := PBz_o (PBz_K a0 (K1 := K + p1) (by omega) (by omega)) (o2 := o1) (n2 := nn + cO g p1.toNat) (by omega) (by omega) (by omega)
  rw [show ba + (p1 - cO g p1.toNat) + 1 = ba + (p - cO g p.toNat) + 1 from by omega]
  exact q2
/-- an operator of two comes into the pile -/
theorem PSz_push (h : PSz t w p o s k f g bb f0 fr ba tb nn (K + 1) 1) (hK : 0 ≤ K) (hx : 3 ≤ x.toInt ∧ x.toInt ≤ 6) (hl : p = 0 ∨ isO (g (p.toNat - 1)) ∨ ((g (p.toNat - 1)).toInt < 5 ∧ 5 ≤ x.toInt)) (et : t1 = t) (ew : w1 = w) (ep : p1 = p + 1) (eo : o1 = o) (es : s1 = s) (ek : k1 = k) (ef : f1 = f) (eg : g1 = upd g p.toNat x) : PSz t1 w1 p1 o1 s1 k1 f1 g1 bb f0 fr ba tb nn K 0 := by
  rw [et, ew, eo, es, ek, ef]
  obtain ⟨a0, a2, a3, a4, a5, a6⟩ := h
  have e1 : p1.toNat = p.toNat + 1 := by omega
  have hn : ¬ isO x := fun q => by unfold isO at q; omega
  have c1 : cO g1 p1.toNat = cO g p.toNat := by rw [e1, cO_push eg, if_neg (show ¬(x.toInt = 2 ∨ x.toInt = 40) from hn), Int.add_zero]
  refine ⟨?_, ?_, by omega, a4, hK, a6⟩
  · rw [c1, show ba + (p1 - cO g p.toNat) + 0 = ba + (p - cO g p.toNat) + 1 from by omega, show K + p1 = K + 1 + p from by omega]
    exact a0
  · rw [e1]
    refine LP_push a2 eg (by omega) (fun _ h1 h2 => ?_)
    rcases hl with q | q | q
    · omega
    · exact absurd q h2
    · unfold lvl
      rw [if_pos (by omega), if_neg (by omega)]
      decide
end PZ
/-- the clauses of a text under way that were read: w words are written -/
def TXQ (f : Nat → Int32) (w n : Int) : Prop := ∀ c : Nat, (c : Int) < n → 1 ≤ (f (3721 + 900 * (f 6).toNatClampNeg + 12 * c)).toInt → (f (3721 + 900 * (f 6).toNatClampNeg + 12 * c)).toInt ≤ 4 → 0 ≤ (f (3721 + 900 * (f 6).toNatClampNeg + 12 * c + 2)).toInt ∧ (f (3721 + 900 * (f 6).toNatClampNeg + 12 * c + 2)).toInt ≤ (f (3721 + 900 * (f 6).toNatClampNeg + 12 * c + 3)).toInt ∧ (f (3721 + 900 * (f 6).toNatClampNeg + 12 * c + 3)).toInt ≤ w ∧ (rnn f (3970 + 900 * (f 6).toNatClampNeg + 2 * (f (3721 + 900 * (f 6).toNatClampNeg + 12 * c + 2)).toNatClampNeg) ((f (3721 + 900 * (f 6).toNatClampNeg + 12 * c + 3)).toNatClampNeg - (f (3721 + 900 * (f 6).toNatClampNeg + 12 * c + 2)).toNatClampNeg)).2.2 = true
theorem TXQ_0 {f : Nat → Int32} {w : Int} : TXQ f w 0 := fun c hc => absurd hc (by omega)
/-- a clause more: of a sort with code, or another one -/
theorem TXQ_add {f g : Nat → Int32} {w w1 : Int} {n : Nat} (h : TXQ f w n) (hn : n ≤ 19) (h6 : 0 ≤ (f 6).toInt ∧ (f 6).toInt ≤ 9) (hw : 0 ≤ w ∧ w ≤ w1) (hg : ∀ j : Nat, (j : Int) < 3970 + 900 * (f 6).toInt + 2 * w → ((j : Int) < 3721 + 900 * (f 6).toInt + 12 * n ∨ 3721 + 900 * (f 6).toInt + 12 * n + 12 ≤ (j : Int)) → g j = f j) (hs : (g (3721 + 900 * (f 6).toNatClampNeg + 12 * n)).toInt < 1 ∨ 4 < (g (3721 + 900 * (f 6).toNatClampNeg + 12 * n)).toInt ∨ ((g (3721 + 900 * (f 6).toNatClampNeg + 12 * n + 2)).toInt = w ∧ (g (3721 + 900 * (f 6).toNatClampNeg + 12 * n + 3)).toInt = w1 ∧ oN g (3970 + 900 * (f 6).toNatClampNeg + 2 * w.toNat) w w1)) : TXQ g w1 (n + 1 : Nat) := by
  have e6 : g 6 = f 6 := hg 6 (by omega) (Or.inl (by omega))
  have z6 := clampE (f 6)
  intro c hc h1 h2
  rw [e6] at h1 h2 ⊢
  by_cases hcn : c < n
  · have gk : ∀ k, k < 12 → g (3721 + 900 * (f 6).toNatClampNeg + 12 * c + k) = f (3721 + 900 * (f 6).toNatClampNeg + 12 * c + k) := fun k hk => hg _ (by omega) (Or.inl (by omega))
    rw [show g (3721 + 900 * (f 6).toNatClampNeg + 12 * c) = f (3721 + 900 * (f 6).toNatClampNeg + 12 * c) from gk 0 (by decide)] at h1 h2
    obtain ⟨w1', w2', w3', w4'⟩ := h c (by omega) h1 h2
    rw [gk 2 (by decide), gk 3 (by decide)]
    refine ⟨w1', w2', by omega, ?_⟩
    rw [rnn_cg _ (fun j hj => ?_)]
    · exact w4'
    · have z1 := clampE (f (3721 + 900 * (f 6).toNatClampNeg + 12 * c + 2))
      have z2 := clampE (f (3721 + 900 * (f 6).toNatClampNeg + 12 * c + 3))
      exact hg _ (by omega) (Or.inr (by omega))
  · have ec : c = n := by omega
    subst ec
    rcases hs with q | q | ⟨q2, q3, q4⟩
    · omega
    · omega
    · have z1 := clampE (g (3721 + 900 * (f 6).toNatClampNeg + 12 * c + 2))
      have z2 := clampE (g (3721 + 900 * (f 6).toNatClampNeg + 12 * c + 3))
      refine ⟨by omega, by omega, by omega, ?_⟩
      unfold oN at q4
      rw [show (g (3721 + 900 * (f 6).toNatClampNeg + 12 * c + 2)).toNatClampNeg = w.toNat from by omega, show (g (3721 + 900 * (f 6).toNatClampNeg + 12 * c + 3)).toNatClampNeg - w.toNat = (w1 - w).toNat from by omega]
      exact q4
theorem tm_cg {a b c d a1 b1 c1 d1 : Int} (h : tmM a b < tmM c d) (ea : a1 = a) (eb : b1 = b) (ec : c1 = c) (ed : d1 = d) : tmM a1 b1 < tmM c1 d1 := by
  rw [ea, eb, ec, ed]; exact h
theorem PSz_hl {t w p o s k : Int} {f g f0 : Nat → Int32} {bb : Nat} {fr ba tb nn K iw a : Int} {x : Int32} (h : PSz t w p o s k f g bb f0 fr ba tb nn K iw) (ht : p = 0 ∨ (g (p.toNat - 1)).toInt < a ∨ 6 < (g (p.toNat - 1)).toInt) (ha : a = 3 ∨ a = 5 ∧ 5 ≤ x.toInt) : p = 0 ∨ isO (g (p.toNat - 1)) ∨ ((g (p.toNat - 1)).toInt < 5 ∧ 5 ≤ x.toInt) := by
  have hp := h.2.2.1
  rcases ht with q | q
  · exact Or.inl q
  · by_cases hz : p = 0
    · exact Or.inl hz
    · have hl := (h.2.1 (p.toNat - 1) (by omega)).1
      unfold isO
      omega
theorem GA_w6 {f : Nat → Int32} (h : GA f) {x : Int32} (h0 : x.toInt = (f 6).toInt + 1) (hx : x.toInt ≤ 10) (hq : TXQ f 300 (f (3720 + 900 * (f 6).toNatClampNeg)).toInt) : GA (upd f 6 x) := by
  have r6 := GA_r h zn_6 (lo := 0) (hi := 10) rfl
  obtain ⟨r6a, r6b⟩ := r6
  have u : ∀ j, j ≠ 6 → upd f 6 x j = f j := fun j hj => by unfold upd; rw [if_neg (fun e => hj e)]
  have u6 : upd f 6 x 6 = x := by unfold upd; rw [if_pos rfl]
  refine ⟨⟨fun j => ?_, fun j hj => ?_⟩, fun t ht c hc h1 h2 => ?_, fun q hq2 => ?_⟩
  · by_cases hj : j = 6
    · rw [hj, u6, zn_6]
      exact ⟨by show (0 : Int) ≤ _; omega, by show _ ≤ (10 : Int); omega⟩
    · rw [u j hj]; exact h.1.1 j
  · by_cases hj6 : j = 6
    · rw [hj6, zn_6] at hj; exact absurd hj (by decide)
    · rw [u j hj6]; exact h.1.2 j hj
  · rw [u6] at ht
    rw [u _ (by omega)] at hc
    rw [u _ (by omega)] at h1 h2
    rw [u _ (by omega), u _ (by omega)]
    rw [rnn_cg (f := f) _ (fun j hj => u _ (by omega))]
    by_cases hlt : (t : Int) < (f 6).toInt
    · exact h.2.1 t hlt c hc h1 h2
    · have e6 := clampE (f 6)
      have et : t = (f 6).toNatClampNeg := by omega
      subst et
      exact hq c hc h1 h2
  · rw [u 7 (by decide)] at hq2
    rw [u _ (by omega), u6]
    have := h.2.2 q hq2
    omega
theorem GM.w6 {X : List Nat} {tg : Nat → Nat} {σ : pq_S} {I0 r0 I ri r1 : Nat → Nat → Int32} {rq : Nat → Nat → Option Nat} (h : GM X tg σ I0 r0 I ri rq) {q t : Nat} {v x : Int32} (ht : tg q = t) (hz : zt t = true ∧ rAm t = (-2147483648, 2147483647)) (e1 : r1 = va_up ri q (upd (ri q) v.toNatClampNeg x)) (hv : v.toNatClampNeg = 6) (h0 : x.toInt = (ri q 6).toInt + 1) (hx : x.toInt ≤ 10) (hq : TXQ (ri q) 300 (ri q (3720 + 900 * (ri q 6).toNatClampNeg)).toInt) (hX : 1006 ∈ X ∧ ∀ p ∈ frl, p.1 = t → p.2 ∈ X) : GM X tg σ I0 r0 I r1 rq := by
  have hb := (GA_r (h.1.2.2.1 q (by rw [ht]; exact hz.1)) zn_6 (lo := 0) (hi := 10) rfl).1
  exact GM.wz0 h ht hz.1 hz.2 e1 (k := 6) (by rw [hv]; exact zn_6) (lo := 0) (hi := 10) rfl ⟨by omega, hx⟩ ⟨Or.inr hX.1, hX.2⟩ (fun hG => by rw [hv]; exact GA_w6 hG h0 hx hq) (fun e => absurd e (by decide))
/-- a write in the head of a clause under way, whichever -/
theorem GM.wth {X : List Nat} {tg : Nat → Nat} {σ : pq_S} {I0 r0 I ri r1 : Nat → Nat → Int32} {rq : Nat → Nat → Option Nat} (h : GM X tg σ I0 r0 I ri rq) {q t n k : Nat} {v x : Int32} (ht : tg q = t) (hz : zt t = true ∧ rAm t = (-2147483648, 2147483647)) (e1 : r1 = va_up ri q (upd (ri q) v.toNatClampNeg x)) (c : Nat) (hc : c < 20) (hn : n < 10) (e : v.toNatClampNeg = 3721 + 900 * n + 12 * c + k) (hk : 5 ≤ k ∧ k < 9) (hv : 3720 + 900 * (ri q 6).toInt ≤ (v.toNatClampNeg : Int)) (hX : (∀ z, z ∈ [1915, 1916, 1917, 1918] → z ∈ X) ∧ ∀ p ∈ frl, p.1 = t → p.2 ∈ X) : GM X tg σ I0 r0 I r1 rq := by
  have hk' : k = 5 ∨ k = 6 ∨ k = 7 ∨ k = 8 := by omega
  have ez := zn_tc e hn hc (show k < 12 by omega)
  rcases hk' with q | q | q | q <;> (subst q; exact GM.wt h ht hz e1 ez (lo := -2147483648) (hi := 2147483647) rfl (rg_full _) hv ⟨⟨Or.inr (hX.1 _ (by decide)), hX.2⟩, by decide⟩)
theorem tm_lec {a b a1 b1 x : Int} (h : tmM a b ≤ x) (ea : a1 = a) (eb : b1 = b) : tmM a1 b1 ≤ x := by
  rw [ea, eb]; exact h
/-- what holds between two clauses: n clauses were read -/
def CLz (t w o s k n : Int) (f : Nat → Int32) : Prop := (t = 3720 + 900 * (f 6).toInt ∧ 0 ≤ (f 6).toInt ∧ (f 6).toInt ≤ 9) ∧ TXQ f w n ∧ (0 ≤ n ∧ n ≤ 20) ∧ (o = 0 ∧ 0 ≤ w) ∧ (w ≤ s ∧ (k ≠ 0 → w + 1 ≤ s) ∧ s ≤ 300)
theorem PBz_new {t w o s k : Int} {f : Nat → Int32} (ht : t = 3720 + 900 * (f 6).toInt ∧ 0 ≤ (f 6).toInt ∧ (f 6).toInt ≤ 9) (ho : o = 0) (hw : 0 ≤ w) (h1 : w ≤ s) (h2 : k ≠ 0 → w + 1 ≤ s) (h3 : s ≤ 300) : PBz t w o s k f (3970 + 900 * (f 6).toInt + 2 * w).toNat f w 0 0 0 0 := by
  refine ⟨ht, ⟨by omega, hw, Int.le_refl _⟩, fun _ _ => rfl, ?_, ?_, ?_, ⟨ho, by decide, by decide, by decide⟩, by omega, fun q => by have := h2 q; omega, h3⟩
  · unfold oN; rw [Int.sub_self]; rfl
  · unfold vN; rw [Int.sub_self]; rfl
  · unfold tN; rw [Int.sub_self]; rfl
theorem upd_at {f : Nat → Int32} {i j : Nat} {x : Int32} (h : j = i) : upd f i x j = x := by unfold upd; rw [if_pos h]
theorem upd_off {f : Nat → Int32} {i j : Nat} {x : Int32} (h : j ≠ i) : upd f i x j = f j := by unfold upd; rw [if_neg h]
theorem TXQ_code {f f1 f2 f3 f4 : Nat → Int32} {t w w1 o s k va tb nn K : Int} {bb ci i2 i3 : Nat} {n : Nat} {xs xw xw1 : Int32} (h : TXQ f w n) (hn : n ≤ 19) (h6 : 0 ≤ (f 6).toInt ∧ (f 6).toInt ≤ 9) (hw : 0 ≤ w) (hci : (ci : Int) = 3721 + 900 * (f 6).toInt + 12 * n) (e1 : f1 = upd f ci xs) (hi2 : i2 = ci + 2) (e2 : f2 = upd f1 i2 xw) (hP : PBz t w1 o s k f3 bb f2 w va tb nn K) (hi3 : i3 = ci + 3) (e4 : f4 = upd f3 i3 xw1) (hxw : xw.toInt = w) (hxw1 : xw1.toInt = w1) : TXQ f4 w1 (n + 1 : Nat) := by
  subst hi2 hi3
  have z6 := clampE (f 6)
  obtain ⟨a1, a2, a3, a4, a5, a6, a7, a8⟩ := hP
  have g2 : ∀ j : Nat, j ≠ ci → j ≠ ci + 2 → f2 j = f j := fun j h1 h2 => by rw [e2, upd_off h2, e1, upd_off h1]
  have h36 : f3 6 = f 6 := by
    by_cases hb : 6 < bb
    · rw [a3 6 hb, g2 6 (by omega) (by omega)]
    · omega
  rw [h36] at a2
  have g4 : ∀ j : Nat, j < bb → j ≠ ci → j ≠ ci + 2 → j ≠ ci + 3 → f4 j = f j := fun j hb h1 h2 h3 => by rw [e4, upd_off h3, a3 j hb, g2 j h1 h2]
  refine TXQ_add h hn h6 ⟨hw, by omega⟩ (fun j hj hx => g4 j (by omega) (by omega) (by omega) (by omega)) (Or.inr (Or.inr ⟨?_, ?_, ?_⟩))
  · rw [show 3721 + 900 * (f 6).toNatClampNeg + 12 * n + 2 = ci + 2 from by omega, e4, upd_off (by omega), a3 _ (by omega), e2, upd_at rfl]
    exact hxw
  · rw [show 3721 + 900 * (f 6).toNatClampNeg + 12 * n + 3 = ci + 3 from by omega, e4, upd_at rfl]
    exact hxw1
  · rw [show 3970 + 900 * (f 6).toNatClampNeg + 2 * w.toNat = bb from by omega]
    unfold oN at a4 ⊢
    rw [rnn_cg (f := f3) _ (fun j hj => by rw [e4, upd_off (by omega)])]
    exact a4
theorem TXQ_other {f f1 f2 : Nat → Int32} {w : Int} {ci : Nat} {n : Nat} {xs : Int32} (h : TXQ f w n) (hn : n ≤ 19) (h6 : 0 ≤ (f 6).toInt ∧ (f 6).toInt ≤ 9) (hw : 0 ≤ w) (hci : (ci : Int) = 3721 + 900 * (f 6).toInt + 12 * n) (e1 : f1 = upd f ci xs) (hx : 4 < xs.toInt) (e2 : ∀ j : Nat, (j ≤ ci ∨ ci + 12 ≤ j) → f2 j = f1 j) : TXQ f2 w (n + 1 : Nat) := by
  have z6 := clampE (f 6)
  refine TXQ_add h hn h6 ⟨hw, Int.le_refl _⟩ (fun j hj hjj => ?_) (Or.inr (Or.inl ?_))
  · rw [e2 j (by omega), e1, upd_off (by omega)]
  · rw [show 3721 + 900 * (f 6).toNatClampNeg + 12 * n = ci from by omega, e2 ci (by omega), e1, upd_at rfl]
    exact hx
theorem TXQ_end {f g : Nat → Int32} {w n : Int} {i : Nat} {x : Int32} (h : TXQ f w n) (hn : n ≤ 20) (hw : w ≤ 300) (h6 : 0 ≤ (f 6).toInt ∧ (f 6).toInt ≤ 9) (hi : (i : Int) = 3720 + 900 * (f 6).toInt) (e : g = upd f i x) (hx : x.toInt = n) : TXQ g 300 (g (3720 + 900 * (g 6).toNatClampNeg)).toInt := by
  have z6 := clampE (f 6)
  have e6 : g 6 = f 6 := by rw [e, upd_off (by omega)]
  rw [e6, show g (3720 + 900 * (f 6).toNatClampNeg) = x from by rw [e, upd_at (by omega)], hx]
  intro c hc h1 h2
  rw [e6] at h1 h2 ⊢
  have u : ∀ j : Nat, j ≠ i → g j = f j := fun j hj => by rw [e, upd_off hj]
  rw [u _ (by omega)] at h1 h2
  rw [u _ (by omega), u _ (by omega), rnn_cg (f := f) _ (fun j hj => u _ (by omega))]
  obtain ⟨b1, b2, b3, b4⟩ := h c hc h1 h2
  exact ⟨b1, b2, by omega, b4⟩
theorem CLz_mk {t w o s k n : Int} {f : Nat → Int32} (h1 : t = 3720 + 900 * (f 6).toInt ∧ 0 ≤ (f 6).toInt ∧ (f 6).toInt ≤ 9) (h2 : TXQ f w n) (h3 : 0 ≤ n ∧ n ≤ 20) (h4 : o = 0 ∧ 0 ≤ w) (h5 : w ≤ s) (h6 : k ≠ 0 → w + 1 ≤ s) (h7 : s ≤ 300) : CLz t w o s k n f := ⟨h1, h2, h3, h4, h5, h6, h7⟩
