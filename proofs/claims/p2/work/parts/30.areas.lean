/-! ===== the reference: one array with areas ===== -/
theorem clampE (x : Int32) : x.toInt.toNat = x.toNatClampNeg := rfl
def zn (i : Nat) : Nat := if i < 20 then i else if i < 80 then 100 + (i - 20) % 5 else if i < 85 then 200 else if i < 100 then 999 else if i < 740 then 300 + (i - 100) % 16 else if i < 1220 then 400 + (i - 740) % 12 else if i < 2220 then 500 + (i - 1220) % 5 else if i < 2340 then 600 + (i - 2220) % 4 else if i < 2400 then 999 else if i < 2520 then 700 + (i - 2400) % 4 else if i < 3720 then 800 + (i - 2520) % 2 else if i < 12720 then (if (i - 3720) % 900 = 0 then 900 else if (i - 3720) % 900 < 241 then 910 + ((i - 3720) % 900 - 1) % 12 else if (i - 3720) % 900 < 250 then 999 else 930 + ((i - 3720) % 900 - 250) % 2) else 999
def rztl : List (Nat × Int × Int) := [(0, 0, 600), (1, 0, 5), (2, 0, 40), (3, 0, 200), (4, 0, 5), (5, 0, 40), (6, 0, 10), (7, 0, 30), (10, 0, 30), (314, (-1), 39), (403, 0, 300), (600, 0, 9), (900, 0, 20), (914, 0, 4)]
def rzt (z : Nat) : Int × Int := (rztl.lookup z).getD (-2147483648, 2147483647)
theorem zn_TABLE {i c k : Nat} (e : i = 20 + 5 * c + k) (hc : c < 12) (hk : k < 5) : zn i = 100 + k := by
  subst e
  unfold zn
  repeat (first | rw [if_neg (by omega)] | rw [if_pos (by omega)])
  omega
theorem zn_LOT1 {i : Nat} (h : 80 ≤ i ∧ i < 85) : zn i = 200 := by
  unfold zn
  repeat (first | rw [if_neg (by omega)] | rw [if_pos (by omega)])
theorem zn_CELL {i c k : Nat} (e : i = 100 + 16 * c + k) (hc : c < 40) (hk : k < 16) : zn i = 300 + k := by
  subst e
  unfold zn
  repeat (first | rw [if_neg (by omega)] | rw [if_pos (by omega)])
  omega
theorem zn_PERSON {i c k : Nat} (e : i = 740 + 12 * c + k) (hc : c < 40) (hk : k < 12) : zn i = 400 + k := by
  subst e
  unfold zn
  repeat (first | rw [if_neg (by omega)] | rw [if_pos (by omega)])
  omega
theorem zn_LEVEL {i c k : Nat} (e : i = 1220 + 5 * c + k) (hc : c < 200) (hk : k < 5) : zn i = 500 + k := by
  subst e
  unfold zn
  repeat (first | rw [if_neg (by omega)] | rw [if_pos (by omega)])
  omega
theorem zn_FORCE {i c k : Nat} (e : i = 2220 + 4 * c + k) (hc : c < 30) (hk : k < 4) : zn i = 600 + k := by
  subst e
  unfold zn
  repeat (first | rw [if_neg (by omega)] | rw [if_pos (by omega)])
  omega
theorem zn_GRAVE {i c k : Nat} (e : i = 2400 + 4 * c + k) (hc : c < 30) (hk : k < 4) : zn i = 700 + k := by
  subst e
  unfold zn
  repeat (first | rw [if_neg (by omega)] | rw [if_pos (by omega)])
  omega
theorem zn_ROCKS {i c k : Nat} (e : i = 2520 + 2 * c + k) (hc : c < 600) (hk : k < 2) : zn i = 800 + k := by
  subst e
  unfold zn
  repeat (first | rw [if_neg (by omega)] | rw [if_pos (by omega)])
  omega
theorem zn_t0 {i t : Nat} (e : i = 3720 + 900 * t) (ht : t < 10) : zn i = 900 := by
  subst e
  unfold zn
  repeat (first | rw [if_neg (by omega)] | rw [if_pos (by omega)])
theorem zn_tc {i t c k : Nat} (e : i = 3721 + 900 * t + 12 * c + k) (ht : t < 10) (hc : c < 20) (hk : k < 12) : zn i = 910 + k := by
  subst e
  unfold zn
  repeat (first | rw [if_neg (by omega)] | rw [if_pos (by omega)])
  omega
theorem zn_tk {i t c k : Nat} (e : i = 3970 + 900 * t + 2 * c + k) (ht : t < 10) (hc : c < 325) (hk : k < 2) : zn i = 930 + k := by
  subst e
  unfold zn
  repeat (first | rw [if_neg (by omega)] | rw [if_pos (by omega)])
  omega
theorem zn_id {i j : Nat} (hj : j < 20) (h : zn i = zn j) : i = j := by
  have e : zn j = j := by unfold zn; rw [if_pos hj]
  rw [e] at h
  unfold zn at h
  repeat (first | split at h)
  all_goals omega
def GA (f : Nat → Int32) : Prop := (∀ i, rg (f i) (rzt (zn i)).1 (rzt (zn i)).2) ∧ ∀ i, zn i = 403 → (f i).toInt < 5 ∨ 100 ≤ (f i).toInt
abbrev zt (t : Nat) : Bool := t == 384 || t == 385 || t == 386
abbrev cjl : List Nat := [0, 1, 2, 3, 4, 5, 10]
def GT (tg : Nat → Nat) (I ri : Nat → Nat → Int32) : Prop := (∀ f a, rg (I f a) (rIt f).1 (rIt f).2) ∧ (∀ q j, rg (ri q j) (rAt (tg q)).1 (rAt (tg q)).2) ∧ ∀ q, zt (tg q) = true → GA (ri q)
def GM (X : List Nat) (tg : Nat → Nat) (_ : pq_S) (I0 r0 I ri : Nat → Nat → Int32) (_ : Nat → Nat → Option Nat) : Prop := GT tg I ri ∧ (∀ f, f ∈ cfl → f ∉ X → I f = I0 f) ∧ (∀ q, tg q = 384 → ∀ j, j ∈ cjl → 1000 + j ∉ X → ri q j = r0 q j) ∧ (2000 ∉ X → ∀ q, tg q = 385 → ri q = r0 q)
section GMS
variable {X Y : List Nat} {tg : Nat → Nat} {σ : pq_S} {I0 r0 I I1 ri r1 : Nat → Nat → Int32} {rq q1 : Nat → Nat → Option Nat}
theorem GM.rI (h : GM X tg σ I0 r0 I ri rq) (f : Nat) {lo hi : Int} {a : Nat} (e : rIt f = (lo, hi)) : rg (I f a) lo hi := by
  have h1 := h.1.1 f a
  rw [e] at h1
  exact h1
theorem GM.rR (h : GM X tg σ I0 r0 I ri rq) {q j t : Nat} {lo hi : Int} (ht : tg q = t) (e : rAt t = (lo, hi)) : rg (ri q j) lo hi := by
  have h1 := h.1.2.1 q j
  rw [ht, e] at h1
  exact h1
theorem GM.z (h : GM X tg σ I0 r0 I ri rq) {q i k : Nat} {lo hi : Int} (hz : zt (tg q) = true) (e : zn i = k) (e2 : rzt k = (lo, hi)) : rg (ri q i) lo hi := by
  have h1 := (h.1.2.2 q hz).1 i
  rw [e, e2] at h1
  exact h1
theorem GM.hole (h : GM X tg σ I0 r0 I ri rq) {q i : Nat} (hz : zt (tg q) = true) (e : zn i = 403) : (ri q i).toInt < 5 ∨ 100 ≤ (ri q i).toInt := (h.1.2.2 q hz).2 i e
theorem GM.wI (h : GM X tg σ I0 r0 I ri rq) (f : Nat) {lo hi : Int} {a : Nat} {v : Int32} (e : rIt f = (lo, hi)) (e1 : I1 = pq_u I f a v) (hv : rg v lo hi) (hf : (f ∉ cfl ∨ f ∈ X) ∧ f ≠ 256) : GM X tg σ I0 r0 I1 ri rq := by
  subst e1
  refine ⟨⟨fun g b => ?_, h.1.2⟩, fun g hg hx => ?_, h.2.2⟩
  · by_cases hgf : g = f
    · subst hgf
      by_cases hb : b = a
      · subst hb
        rw [pq_us, e]
        exact hv
      · rw [pq_ua _ _ _ _ hb]
        exact h.1.1 g b
    · rw [pq_uf _ _ _ hgf]
      exact h.1.1 g b
  · have hgf : g ≠ f := fun q => by
      subst q
      rcases hf.1 with z | z
      · exact z hg
      · exact hx z
    rw [pq_uf _ _ _ hgf]
    exact h.2.1 g hg hx
theorem GM.wR (h : GM X tg σ I0 r0 I ri rq) (_ : SH σ tg) {q t : Nat} {i v : Int32} {lo hi : Int} (ht : tg q = t) (e : rAt t = (lo, hi)) (e1 : r1 = va_up ri q (upd (ri q) i.toNatClampNeg v)) (hv : rg v lo hi) (hn : zt t = false) : GM X tg σ I0 r0 I r1 rq := by
  subst e1
  have hne : ∀ b, zt (tg b) = true → b ≠ q := fun b hb e => by rw [e, ht, hn] at hb; cases hb
  refine ⟨⟨h.1.1, fun p j => ?_, fun b hb => ?_⟩, h.2.1, fun b hb j hj hx => ?_, fun hx b hb => ?_⟩
  · by_cases hp : p = q
    · subst hp
      rw [va_up_self]
      unfold upd
      split
      · rw [ht, e]
        exact hv
      · exact h.1.2.1 p j
    · rw [va_up_ne _ _ hp]
      exact h.1.2.1 p j
  · rw [va_up_ne _ _ (hne b hb)]
    exact h.1.2.2 b hb
  · rw [va_up_ne _ _ (hne b (by rw [hb]; decide))]
    exact h.2.2.1 b hb j hj hx
  · rw [va_up_ne _ _ (hne b (by rw [hb]; decide))]
    exact h.2.2.2 hx b hb
theorem GM.wz0 (h : GM X tg σ I0 r0 I ri rq) {q t k : Nat} {v x : Int32} {lo hi : Int} (ht : tg q = t) (hz : zt t = true) (hr : rAt t = (-2147483648, 2147483647)) (e1 : r1 = va_up ri q (upd (ri q) v.toNatClampNeg x)) (e : zn v.toNatClampNeg = k) (e2 : rzt k = (lo, hi)) (hx : rg x lo hi) (hX : (k ∉ cjl ∨ 1000 + k ∈ X) ∧ (t ≠ 385 ∨ 2000 ∈ X)) (hh : k = 403 → x.toInt < 5 ∨ 100 ≤ x.toInt) : GM X tg σ I0 r0 I r1 rq := by
  subst e1
  refine ⟨⟨h.1.1, fun p j => ?_, fun b hb => ?_⟩, h.2.1, fun b hb j hj hx2 => ?_, fun hx2 b hb => ?_⟩
  · by_cases hp : p = q
    · subst hp
      rw [ht, hr]
      exact rg_full _
    · rw [va_up_ne _ _ hp]
      exact h.1.2.1 p j
  · by_cases hp : b = q
    · subst hp
      rw [va_up_self]
      refine ⟨fun i => ?_, fun i hi => ?_⟩
      · unfold upd
        split
        · next q => rw [q, e, e2]; exact hx
        · exact (h.1.2.2 b hb).1 i
      · unfold upd
        split
        · next q => rw [q, e] at hi; exact hh hi
        · exact (h.1.2.2 b hb).2 i hi
    · rw [va_up_ne _ _ hp]
      exact h.1.2.2 b hb
  · by_cases hp : b = q
    · subst hp
      rw [va_up_self]
      unfold upd
      split
      · next q =>
        have hj20 : j < 20 := by simp only [cjl, List.mem_cons, List.not_mem_nil, or_false] at hj; omega
        have ej : zn j = j := by unfold zn; rw [if_pos hj20]
        rw [← q, ej] at e
        subst e
        rcases hX.1 with z | z
        · exact absurd hj z
        · exact absurd z hx2
      · exact h.2.2.1 b hb j hj hx2
    · rw [va_up_ne _ _ hp]
      exact h.2.2.1 b hb j hj hx2
  · have hp : b ≠ q := fun z => by
      rw [z, ht] at hb
      rcases hX.2 with y | y
      · exact y hb
      · exact hx2 y
    rw [va_up_ne _ _ hp]
    exact h.2.2.2 hx2 b hb
theorem GM.wz (h : GM X tg σ I0 r0 I ri rq) {q t k : Nat} {v x : Int32} {lo hi : Int} (ht : tg q = t) (hz : zt t = true ∧ rAt t = (-2147483648, 2147483647)) (e1 : r1 = va_up ri q (upd (ri q) v.toNatClampNeg x)) (e : zn v.toNatClampNeg = k) (e2 : rzt k = (lo, hi)) (hx : rg x lo hi) (hX : ((k ∉ cjl ∨ 1000 + k ∈ X) ∧ (t ≠ 385 ∨ 2000 ∈ X)) ∧ k ≠ 403) : GM X tg σ I0 r0 I r1 rq := GM.wz0 h ht hz.1 hz.2 e1 e e2 hx hX.1 (fun q => absurd q hX.2)
theorem GM.tr (h : GM X tg σ I0 r0 I ri rq) (h1 : GM Y tg σ I ri I1 r1 q1) (hs : ∀ f ∈ Y, f ∈ X) : GM X tg σ I0 r0 I1 r1 q1 := ⟨h1.1, fun f hf hx => (h1.2.1 f hf (fun q => hx (hs f q))).trans (h.2.1 f hf hx), fun q hq j hj hx => (h1.2.2.1 q hq j hj (fun z => hx (hs _ z))).trans (h.2.2.1 q hq j hj hx), fun hx q hq => (h1.2.2.2 (fun z => hx (hs _ z)) q hq).trans (h.2.2.2 hx q hq)⟩
end GMS
section PQZ
variable {p : Program} {l : Launch} {e : Env} {R : Room} {s : State} {m : MethodId} {args : Array Value} {below : List Frame} {meth : Method} {c : Code} {H : Heap} {locs : List Loc} {cells slots : Nat} {Q : State → Prop}
variable {cc : ByteArray} {pc : Nat} {ls : Array Slot} {rest : List Value} {D : va_G} {A : Nat → Prop} {a : Nat} {t : pq_T} {σ : pq_S} {H0 : Heap}
variable {I : Nat → Nat → Int32} {J : Nat → Nat → Int64} {ri : Nat → Nat → Int32} {rj : Nat → Nat → Int64} {rq : Nat → Nat → Option Nat}
theorem pl_z (hx : p.tables.exec = Jvm.exec) (hb : c.code = cc) {μ : pq_M} (hK : va_K D vwCl (pq_ty t) s) (hP : va_P D vwCl (pq_P t σ μ) H) (hL : a ∈ σ.1) (hk : σ.2.1 a = 15) {n : Nat} (hn : σ.2.2.2 a = n) {i : Int32} (hin : vp_in i n) (hdg : decode cc pc = .ok (.baload, 1))
    (kk : W p l e R s m args below meth c H locs cells slots Q (F0 m (pc + 1) ls (.int (μ.2.2.1 a i.toNatClampNeg) :: rest))) : W p l e R s m args below meth c H locs cells slots Q (F0 m pc ls (.int i :: .ref a :: rest)) := by
  subst hn
  obtain ⟨q, hq⟩ := pq_in (t := t) (μ := μ) hL
  rw [pq_oZ hk] at hq
  exact va_zald hx hb hK hP q 2 hq rfl hin hdg kk
theorem nar01 {x : Int32} (h : rg x 0 1) : vp_nar .boolean x = x := by rcases bool01 h with e | e <;> subst e <;> rfl
theorem pt_z (hx : p.tables.exec = Jvm.exec) (hb : c.code = cc) (hK : va_K D vwCl (pq_ty t) s) (hP : va_P D vwCl (pq_P t σ (I, J, ri, rj, rq)) H) (hD : va_D A (pq_P t σ (I, J, ri, rj, rq))) (hS : va_S A H0 H locs) (hL : a ∈ σ.1) (hk : σ.2.1 a = 15) {n : Nat} (hn : σ.2.2.2 a = n) {i x : Int32} (hin : vp_in i n) (hz : rg x 0 1) (hdg : decode cc pc = .ok (.bastore, 1))
    (kk : ∀ (r1 : Nat → Nat → Int32) (H1 : Heap) (locs1 : List Loc), r1 = va_up ri a (upd (ri a) i.toNatClampNeg x) → va_P D vwCl (pq_P t σ (I, J, r1, rj, rq)) H1 → va_D A (pq_P t σ (I, J, r1, rj, rq)) → va_S A H0 H1 locs1 → W p l e R s m args below meth c H1 locs1 cells slots Q (F0 m (pc + 1) ls rest)) : W p l e R s m args below meth c H locs cells slots Q (F0 m pc ls (.int x :: .int i :: .ref a :: rest)) := by
  subst hn
  obtain ⟨q, hq⟩ := pq_in (t := t) (μ := (I, J, ri, rj, rq)) hL
  have hq2 := hq
  rw [pq_oZ hk] at hq2
  have he : (pq_P t σ (I, J, ri, rj, rq)).set q (a, .inl (t.2.2.1, σ.2.2.2 a, .inl (upd (ri a) i.toNatClampNeg (vp_nar .boolean x)))) = pq_P t σ (I, J, va_up ri a (upd (ri a) i.toNatClampNeg x), rj, rq) := pq_set hD hL hq (by rw [pq_oZ hk]; simp only [va_up_self, nar01 hz]) (fun b hb => pq_Ea hb)
  refine va_zast hx hb hK hP hD hS q 2 hq2 rfl hin hdg (fun H1 locs1 hP1 hD1 hS1 => ?_)
  exact kk _ H1 locs1 rfl (he ▸ hP1) (he ▸ hD1) hS1
end PQZ
