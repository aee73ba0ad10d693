theorem clampE (x : Int32) : x.toInt.toNat = x.toNatClampNeg := rfl
/-! ===== the outcome as a function: pieces that a walk takes apart ===== -/
def ap1 {α β : Type} (v : α) (k : α → β) : β := k v
theorem ap_n {α β : Type} {v z : α} {k : α → β} (e : z = v) : ap1 v k = k z := by rw [e]; rfl
abbrev vM : Type := (Nat → Int32) × (Nat → Int64) × (Nat → Nat → Int32) × (Nat → Nat → Int64) × (Nat → Nat → Option Nat)
def bnI {α β : Type} (p : α × vM) (k : α → (Nat → Int32) → (Nat → Int64) → (Nat → Nat → Int32) → (Nat → Nat → Int64) → (Nat → Nat → Option Nat) → β) : β := k p.1 p.2.1 p.2.2.1 p.2.2.2.1 p.2.2.2.2.1 p.2.2.2.2.2
theorem bn_n {α β : Type} {p : α × vM} {k : α → (Nat → Int32) → (Nat → Int64) → (Nat → Nat → Int32) → (Nat → Nat → Int64) → (Nat → Nat → Option Nat) → β} {r : α} {I : Nat → Int32} {J : Nat → Int64} {ri : Nat → Nat → Int32} {rj : Nat → Nat → Int64} {rq : Nat → Nat → Option Nat} (e : p = (r, I, J, ri, rj, rq)) : bnI p k = k r I J ri rj rq := by rw [e]; rfl
def bnV {β : Type} (p : vM) (k : (Nat → Int32) → (Nat → Int64) → (Nat → Nat → Int32) → (Nat → Nat → Int64) → (Nat → Nat → Option Nat) → β) : β := k p.1 p.2.1 p.2.2.1 p.2.2.2.1 p.2.2.2.2
theorem bv_n {β : Type} {p : vM} {k : (Nat → Int32) → (Nat → Int64) → (Nat → Nat → Int32) → (Nat → Nat → Int64) → (Nat → Nat → Option Nat) → β} {I : Nat → Int32} {J : Nat → Int64} {ri : Nat → Nat → Int32} {rj : Nat → Nat → Int64} {rq : Nat → Nat → Option Nat} (e : p = (I, J, ri, rj, rq)) : bnV p k = k I J ri rj rq := by rw [e]; rfl
def opt1 {β : Type} (o : Option Nat) (a : β) (k : Nat → β) : β := match o with
  | none => a
  | some w => k w
theorem op_n {β : Type} {o v : Option Nat} {a : β} {k : Nat → β} (e : o = v) : opt1 v a k = opt1 o a k := by rw [e]
theorem op_0 {β : Type} {a : β} {k : Nat → β} : opt1 none a k = a := rfl
theorem op_1 {β : Type} {a : β} {k : Nat → β} {w : Nat} : opt1 (some w) a k = k w := rfl
def fil (v : Int32) (n : Nat) (g : Nat → Int32) : Nat → Int32 := fun j => if j < n then v else g j
theorem fil_0 {r : Nat → Nat → Int32} {a : Nat} {v : Int32} : r = va_up r a (fil v (0 : Int32).toNatClampNeg (r a)) := by
  have z : (0 : Int32).toNatClampNeg = 0 := by decide
  rw [z]
  funext q
  by_cases h : q = a
  · subst h; rw [va_up_self]; funext j; unfold fil; rw [if_neg (Nat.not_lt_zero j)]
  · rw [va_up_ne _ _ h]
theorem fil_s {r0 r r1 : Nat → Nat → Int32} {a : Nat} {v i i1 : Int32} (h : r = va_up r0 a (fil v i.toNatClampNeg (r0 a))) (e : r1 = va_up r a (upd (r a) i.toNatClampNeg v)) (hn : i1.toNatClampNeg = i.toNatClampNeg + 1) : r1 = va_up r0 a (fil v i1.toNatClampNeg (r0 a)) := by
  rw [e, hn]
  funext q
  by_cases hq : q = a
  · subst hq
    rw [va_up_self, va_up_self, h, va_up_self]
    funext j
    unfold upd fil
    by_cases hj : j = i.toNatClampNeg
    · rw [if_pos hj, if_pos (by omega)]
    · rw [if_neg hj]
      by_cases h2 : j < i.toNatClampNeg
      · rw [if_pos h2, if_pos (by omega)]
      · rw [if_neg h2, if_neg (by omega)]
  · rw [va_up_ne _ _ hq, va_up_ne _ _ hq, h, va_up_ne _ _ hq]
/-! ===== a tree of the pool, by fields and tags ===== -/
def kd (σ : pq_S) (f a : Nat) : Nat := (σ.2.2.1 f a).getD 0
theorem kd_e {σ : pq_S} {f a w : Nat} (h : σ.2.2.1 f a = some w) : w = kd σ f a := by unfold kd; rw [h]; rfl
def vo (σ : pq_S) (c W : Nat) : Nat := match c with
  | 0 => kd σ 328 W
  | 1 => kd σ 330 W
  | 2 => kd σ 327 W
  | 3 => kd σ 329 W
  | 6 => kd σ 128 W
  | 7 => kd σ 326 W
  | 8 => kd σ 131 W
  | 9 => kd σ 78 (kd σ 327 W)
  | _ => W
def vrow (σ : pq_S) (t W : Nat) : Nat := kd σ t (vo σ (t / 32) W)
theorem vo_k {σ : pq_S} {c f a w W : Nat} (hO : a = vo σ c W) (hR : σ.2.2.1 f a = some w) : w = kd σ f (vo σ c W) := by rw [← hO]; exact kd_e hR
def vcl (k c : Nat) : Bool := if k = 10 then decide (c ∈ [0, 1, 2, 3, 7, 9, 10]) else if k = 4 then decide (c ∈ [4, 6, 8]) else decide (c = 12)
def vok (k t : Nat) : Bool := vcl k (ftp t).1 && decide (13 ≤ (ftp t).2.1)
theorem vcl_5 {k c : Nat} (h : vcl k c = true) : c ≠ 5 := fun e => by
  subst e
  unfold vcl at h
  split at h
  · exact absurd h (by decide)
  · split at h
    · exact absurd h (by decide)
    · exact absurd h (by decide)
theorem ftp_cl : ∀ f, f < 416 → (ftp f).1 = f / 32 ∨ (ftp f).1 = 99 := by decide +kernel
theorem ftp_c (f : Nat) : (ftp f).1 = f / 32 ∨ (ftp f).1 = 99 := by
  by_cases hf : f < 416
  · exact ftp_cl f hf
  · refine Or.inr ?_
    unfold ftp
    rw [show ftpl[f / 32]? = none from List.getElem?_eq_none (by show 13 ≤ f / 32; omega)]
    rfl
theorem vcl_99 (k : Nat) : vcl k 99 = false := by
  unfold vcl
  split
  · decide
  · split
    · decide
    · decide
theorem vok_c {k t : Nat} (h : vok k t = true) : (ftp t).1 = t / 32 ∧ vcl k (t / 32) = true ∧ 13 ≤ (ftp t).2.1 := by
  unfold vok at h
  rw [Bool.and_eq_true] at h
  obtain ⟨h1, h2⟩ := h
  rcases ftp_c t with e | e
  · rw [e] at h1; exact ⟨e, h1, of_decide_eq_true h2⟩
  · rw [e, vcl_99] at h1; exact absurd h1 (by decide)
def VO (k : Nat) (σ : pq_S) (W : Nat) : Prop := ∀ c, vcl k c = true → vo σ c W ∈ σ.1 ∧ σ.2.1 (vo σ c W) = c
def VT (k : Nat) (σ : pq_S) (tg : Nat → Nat) (W : Nat) : Prop := SH σ tg ∧ VO k σ W ∧ ∀ t, vok k t = true → tg (vrow σ t W) = t ∧ vrow σ t W ∈ σ.1 ∧ σ.2.2.1 t (vo σ (t / 32) W) = some (vrow σ t W)
theorem vt_of {k : Nat} {σ : pq_S} {tg : Nat → Nat} {W : Nat} (hSH : SH σ tg) (h : VO k σ W) : VT k σ tg W := ⟨hSH, h, fun t ht => by
  obtain ⟨e1, e2, e3⟩ := vok_c ht
  obtain ⟨hm, hk⟩ := h _ e2
  obtain ⟨w, r1, r2, r3, r4⟩ := hSH _ hm t (by rw [e1, hk])
  have e : vrow σ t W = w := (kd_e r1).symm
  rw [e]
  exact ⟨(r4 e3).2, r2, r1⟩⟩
section VTS
variable {σ : pq_S} {tg : Nat → Nat} {W : Nat}
theorem vo_in {f ci k a : Nat} (hSH : SH σ tg) (e : ftp f = (ci, k, 0)) (hm : a ∈ σ.1) (hk : σ.2.1 a = ci) : kd σ f a ∈ σ.1 ∧ σ.2.1 (kd σ f a) = k := by
  obtain ⟨w, r1, r2, r3⟩ := sh_o hSH f e hm hk
  rw [← kd_e r1]
  exact ⟨r2, r3⟩
theorem vt_10 (hSH : SH σ tg) (hL : W ∈ σ.1) (hK : σ.2.1 W = 10) : VT 10 σ tg W := vt_of hSH (fun c hc => by
  have hc : c ∈ [0, 1, 2, 3, 7, 9, 10] := of_decide_eq_true hc
  simp only [List.mem_cons, List.not_mem_nil, or_false] at hc
  have h2 := vo_in (f := 327) (ci := 10) (k := 2) hSH rfl hL hK
  rcases hc with e | e | e | e | e | e | e <;> subst e
  · exact vo_in (f := 328) (ci := 10) (k := 0) hSH rfl hL hK
  · exact vo_in (f := 330) (ci := 10) (k := 1) hSH rfl hL hK
  · exact h2
  · exact vo_in (f := 329) (ci := 10) (k := 3) hSH rfl hL hK
  · exact vo_in (f := 326) (ci := 10) (k := 7) hSH rfl hL hK
  · exact vo_in (f := 78) (ci := 2) (k := 9) hSH rfl h2.1 h2.2
  · exact ⟨hL, hK⟩)
theorem vt_4 (hSH : SH σ tg) (hL : W ∈ σ.1) (hK : σ.2.1 W = 4) : VT 4 σ tg W := vt_of hSH (fun c hc => by
  have hc : c ∈ [4, 6, 8] := of_decide_eq_true hc
  simp only [List.mem_cons, List.not_mem_nil, or_false] at hc
  rcases hc with e | e | e <;> subst e
  · exact ⟨hL, hK⟩
  · exact vo_in (f := 128) (ci := 4) (k := 6) hSH rfl hL hK
  · exact vo_in (f := 131) (ci := 4) (k := 8) hSH rfl hL hK)
theorem vt_12 (hSH : SH σ tg) (hL : W ∈ σ.1) (hK : σ.2.1 W = 12) : VT 12 σ tg W := vt_of hSH (fun c hc => by
  have hc : c = 12 := of_decide_eq_true hc
  subst hc
  exact ⟨hL, hK⟩)
end VTS
def vI (k : Nat) (σ : pq_S) (W : Nat) (I : Nat → Nat → Int32) : Nat → Int32 := fun f => if vcl k (f / 32) = true then I f (vo σ (f / 32) W) else 0
def vJ (k : Nat) (σ : pq_S) (W : Nat) (I : Nat → Nat → Int64) : Nat → Int64 := fun f => if vcl k (f / 32) = true then I f (vo σ (f / 32) W) else 0
def vR (k : Nat) (σ : pq_S) (W : Nat) (r : Nat → Nat → Int32) : Nat → Nat → Int32 := fun t => if vok k t = true then r (vrow σ t W) else fun _ => 0
def vL (k : Nat) (σ : pq_S) (W : Nat) (r : Nat → Nat → Int64) : Nat → Nat → Int64 := fun t => if vok k t = true then r (vrow σ t W) else fun _ => 0
def vQ (k : Nat) (σ : pq_S) (W : Nat) (r : Nat → Nat → Option Nat) : Nat → Nat → Option Nat := fun t => if vok k t = true then r (vrow σ t W) else fun _ => none
def FR (k : Nat) (tg : Nat → Nat) (σ : pq_S) (W : Nat) (μ μ1 : pq_M) : Prop := (∀ f a, f / 32 ≠ 5 → (vcl k (f / 32) = true → a ≠ vo σ (f / 32) W) → μ1.1 f a = μ.1 f a) ∧ (∀ f a, f / 32 ≠ 5 → (vcl k (f / 32) = true → a ≠ vo σ (f / 32) W) → μ1.2.1 f a = μ.2.1 f a) ∧ (∀ q, tg q / 32 ≠ 5 → (∀ t, vok k t = true → q ≠ vrow σ t W) → μ1.2.2.1 q = μ.2.2.1 q) ∧ (∀ q, tg q / 32 ≠ 5 → (∀ t, vok k t = true → q ≠ vrow σ t W) → μ1.2.2.2.1 q = μ.2.2.2.1 q) ∧ ∀ q, tg q / 32 ≠ 5 → (∀ t, vok k t = true → q ≠ vrow σ t W) → μ1.2.2.2.2 q = μ.2.2.2.2 q
/-- two trees that are apart -/
def AP (k : Nat) (tg : Nat → Nat) (σ : pq_S) (M N : Nat) : Prop := VT k σ tg M ∧ VT k σ tg N ∧ (∀ c, vcl k c = true → vo σ c N ≠ vo σ c M) ∧ ∀ t, vok k t = true → vrow σ t N ≠ vrow σ t M
theorem ap_sym {k : Nat} {tg : Nat → Nat} {σ : pq_S} {M N : Nat} (h : AP k tg σ M N) : AP k tg σ N M := ⟨h.2.1, h.1, fun c hc e => h.2.2.1 c hc e.symm, fun t ht e => h.2.2.2 t ht e.symm⟩
def tI (σ : pq_S) (I : Nat → Nat → Int32) : Nat → Nat → Int32 := fun f w => if w ∈ σ.1 ∧ σ.2.1 w = 8 ∧ f / 32 = 8 then I f w else 0
def tR (σ : pq_S) (r : Nat → Nat → Int32) : Nat → Nat → Nat → Int32 := fun t w => if w ∈ σ.1 ∧ σ.2.1 w = 8 ∧ (ftp t).1 = 8 then r (kd σ t w) else fun _ => 0
section VWS
variable {k : Nat} {σ : pq_S} {tg : Nat → Nat} {W M N f a w t : Nat} {μ : pq_M}
variable {I I0 I1 I2 : Nat → Nat → Int32} {J J0 J1 J2 : Nat → Nat → Int64} {r r0 r1 r2 : Nat → Nat → Int32} {l l0 l1 l2 : Nat → Nat → Int64} {q q0 q1 q2 : Nat → Nat → Option Nat}
theorem vI_e (hO : a = vo σ (f / 32) W) (hc : vcl k (f / 32) = true) : I f a = vI k σ W I f := by unfold vI; rw [if_pos hc, hO]
theorem vJ_e (hO : a = vo σ (f / 32) W) (hc : vcl k (f / 32) = true) : J f a = vJ k σ W J f := by unfold vJ; rw [if_pos hc, hO]
theorem vI_st {v : Int32} (hO : a = vo σ (f / 32) W) (hc : vcl k (f / 32) = true) (e : I1 = pq_u I f a v) : vI k σ W I1 = va_up (vI k σ W I) f v := by
  funext g
  unfold vI
  by_cases hg : g = f
  · subst hg; rw [va_up_self, if_pos hc, e, ← hO, pq_us]
  · rw [va_up_ne _ _ hg, e, pq_uf _ _ _ hg]
theorem vJ_st {v : Int64} (hO : a = vo σ (f / 32) W) (hc : vcl k (f / 32) = true) (e : J1 = pq_u J f a v) : vJ k σ W J1 = va_up (vJ k σ W J) f v := by
  funext g
  unfold vJ
  by_cases hg : g = f
  · subst hg; rw [va_up_self, if_pos hc, e, ← hO, pq_us]
  · rw [va_up_ne _ _ hg, e, pq_uf _ _ _ hg]
theorem vR_r {z : Int32} {i : Nat} (hO : w = vrow σ t W) (hv : vok k t = true) (e : z = r w i) : z = vR k σ W r t i := by unfold vR; rw [if_pos hv, ← hO]; exact e
theorem vL_r {z : Int64} {i : Nat} (hO : w = vrow σ t W) (hv : vok k t = true) (e : z = l w i) : z = vL k σ W l t i := by unfold vL; rw [if_pos hv, ← hO]; exact e
theorem vQ_r {z : Option Nat} {i : Nat} (hO : w = vrow σ t W) (hv : vok k t = true) (e : z = q w i) : z = vQ k σ W q t i := by unfold vQ; rw [if_pos hv, ← hO]; exact e
theorem vrow_ne (hVT : VT k σ tg W) {t t1 : Nat} (h : vok k t = true) (h1 : vok k t1 = true) (hn : t1 ≠ t) : vrow σ t1 W ≠ vrow σ t W := fun e => hn (by rw [← (hVT.2.2 t1 h1).1, e, (hVT.2.2 t h).1])
theorem vR_w {g : Nat → Int32} (hVT : VT k σ tg W) (hO : w = vrow σ t W) (hv : vok k t = true) (e : r1 = va_up r w g) : vR k σ W r1 = va_up (vR k σ W r) t g := by
  funext t1
  unfold vR
  by_cases h : t1 = t
  · subst h; rw [va_up_self, if_pos hv, e, ← hO, va_up_self]
  · rw [va_up_ne _ _ h]
    split
    · next h1 => rw [e, hO, va_up_ne _ _ (vrow_ne hVT hv h1 h)]
    · rfl
theorem vL_w {g : Nat → Int64} (hVT : VT k σ tg W) (hO : w = vrow σ t W) (hv : vok k t = true) (e : l1 = va_up l w g) : vL k σ W l1 = va_up (vL k σ W l) t g := by
  funext t1
  unfold vL
  by_cases h : t1 = t
  · subst h; rw [va_up_self, if_pos hv, e, ← hO, va_up_self]
  · rw [va_up_ne _ _ h]
    split
    · next h1 => rw [e, hO, va_up_ne _ _ (vrow_ne hVT hv h1 h)]
    · rfl
theorem vQ_w {g : Nat → Option Nat} (hVT : VT k σ tg W) (hO : w = vrow σ t W) (hv : vok k t = true) (e : q1 = va_up q w g) : vQ k σ W q1 = va_up (vQ k σ W q) t g := by
  funext t1
  unfold vQ
  by_cases h : t1 = t
  · subst h; rw [va_up_self, if_pos hv, e, ← hO, va_up_self]
  · rw [va_up_ne _ _ h]
    split
    · next h1 => rw [e, hO, va_up_ne _ _ (vrow_ne hVT hv h1 h)]
    · rfl
theorem vR_i (hO : w = vrow σ t W) (hv : vok k t = true) : r w = vR k σ W r t := by unfold vR; rw [if_pos hv, ← hO]
theorem vL_i (hO : w = vrow σ t W) (hv : vok k t = true) : l w = vL k σ W l t := by unfold vL; rw [if_pos hv, ← hO]
theorem vQ_i (hO : w = vrow σ t W) (hv : vok k t = true) : q w = vQ k σ W q t := by unfold vQ; rw [if_pos hv, ← hO]
theorem vR_st {n : Nat} {v : Int32} (hVT : VT k σ tg W) (hO : w = vrow σ t W) (hv : vok k t = true) (e : r1 = va_up r w (upd (r w) n v)) : vR k σ W r1 = va_up (vR k σ W r) t (upd (vR k σ W r t) n v) := by rw [← vR_i hO hv]; exact vR_w hVT hO hv e
theorem vL_st {n : Nat} {v : Int64} (hVT : VT k σ tg W) (hO : w = vrow σ t W) (hv : vok k t = true) (e : l1 = va_up l w (vp_updL (l w) n v)) : vL k σ W l1 = va_up (vL k σ W l) t (vp_updL (vL k σ W l t) n v) := by rw [← vL_i hO hv]; exact vL_w hVT hO hv e
theorem vQ_st {n : Nat} {v : Option Nat} (hVT : VT k σ tg W) (hO : w = vrow σ t W) (hv : vok k t = true) (e : q1 = va_up q w (va_up (q w) n v)) : vQ k σ W q1 = va_up (vQ k σ W q) t (va_up (vQ k σ W q t) n v) := by rw [← vQ_i hO hv]; exact vQ_w hVT hO hv e
theorem vR_cp {g : Nat → Int32} {b sp n : Nat} (hVT : VT k σ tg W) (hO : w = vrow σ t W) (hv : vok k t = true) (hg : r b = g) (e : r1 = va_up r w (va_cpy (r b) (r w) sp 0 n)) : vR k σ W r1 = va_up (vR k σ W r) t (va_cpy g (vR k σ W r t) sp 0 n) := by rw [← vR_i hO hv, ← hg]; exact vR_w hVT hO hv e
theorem vL_cp {g : Nat → Int64} {b sp n : Nat} (hVT : VT k σ tg W) (hO : w = vrow σ t W) (hv : vok k t = true) (hg : l b = g) (e : l1 = va_up l w (va_cpy (l b) (l w) sp 0 n)) : vL k σ W l1 = va_up (vL k σ W l) t (va_cpy g (vL k σ W l t) sp 0 n) := by rw [← vL_i hO hv, ← hg]; exact vL_w hVT hO hv e
theorem vR_fl {v : Int32} {n : Nat} (hVT : VT k σ tg W) (hO : w = vrow σ t W) (hv : vok k t = true) (e : r1 = va_up r w (fil v n (r w))) : vR k σ W r1 = va_up (vR k σ W r) t (fil v n (vR k σ W r t)) := by rw [← vR_i hO hv]; exact vR_w hVT hO hv e
/-! what is outside stands -/
theorem fr_rf : FR k tg σ W μ μ := ⟨fun _ _ _ _ => rfl, fun _ _ _ _ => rfl, fun _ _ _ => rfl, fun _ _ _ => rfl, fun _ _ _ => rfl⟩
theorem fr_tr {μ1 μ2 : pq_M} (h : FR k tg σ W μ μ1) (h1 : FR k tg σ W μ1 μ2) : FR k tg σ W μ μ2 := ⟨fun f a x y => (h1.1 f a x y).trans (h.1 f a x y), fun f a x y => (h1.2.1 f a x y).trans (h.2.1 f a x y), fun f x y => (h1.2.2.1 f x y).trans (h.2.2.1 f x y), fun f x y => (h1.2.2.2.1 f x y).trans (h.2.2.2.1 f x y), fun f x y => (h1.2.2.2.2 f x y).trans (h.2.2.2.2 f x y)⟩
theorem pq_uN {α : Type} {I : Nat → Nat → α} {f a g b : Nat} {v : α} (h : g = f → b ≠ a) : pq_u I f a v g b = I g b := by
  by_cases hg : g = f
  · subst hg; exact pq_ua _ _ _ _ (h rfl)
  · rw [pq_uf _ _ _ hg]
theorem fr_I {v : Int32} (h : FR k tg σ W μ (I1, J1, r1, l1, q1)) (hO : a = vo σ (f / 32) W) (hc : vcl k (f / 32) = true) (e : I2 = pq_u I1 f a v) : FR k tg σ W μ (I2, J1, r1, l1, q1) := by
  subst e
  refine ⟨fun g b x y => ?_, h.2⟩
  show pq_u I1 f a v g b = _
  rw [pq_uN (fun eg => by subst eg; rw [hO]; exact y hc)]
  exact h.1 g b x y
theorem fr_J {v : Int64} (h : FR k tg σ W μ (I1, J1, r1, l1, q1)) (hO : a = vo σ (f / 32) W) (hc : vcl k (f / 32) = true) (e : J2 = pq_u J1 f a v) : FR k tg σ W μ (I1, J2, r1, l1, q1) := by
  subst e
  refine ⟨h.1, fun g b x y => ?_, h.2.2⟩
  show pq_u J1 f a v g b = _
  rw [pq_uN (fun eg => by subst eg; rw [hO]; exact y hc)]
  exact h.2.1 g b x y
theorem fr_I5 {v : Int32} (h : FR k tg σ W μ (I1, J1, r1, l1, q1)) (hc : f / 32 = 5) (e : I2 = pq_u I1 f a v) : FR k tg σ W μ (I2, J1, r1, l1, q1) := by
  subst e
  refine ⟨fun g b x y => ?_, h.2⟩
  show pq_u I1 f a v g b = _
  rw [pq_uN (fun eg => by subst eg; exact absurd hc x)]
  exact h.1 g b x y
theorem fr_R {g : Nat → Int32} (h : FR k tg σ W μ (I1, J1, r1, l1, q1)) (hO : w = vrow σ t W) (hv : vok k t = true) (e : r2 = va_up r1 w g) : FR k tg σ W μ (I1, J1, r2, l1, q1) := by
  subst e
  refine ⟨h.1, h.2.1, fun p x y => ?_, h.2.2.2⟩
  show va_up r1 w g p = _
  rw [va_up_ne _ _ (by rw [hO]; exact y t hv)]
  exact h.2.2.1 p x y
theorem fr_L {g : Nat → Int64} (h : FR k tg σ W μ (I1, J1, r1, l1, q1)) (hO : w = vrow σ t W) (hv : vok k t = true) (e : l2 = va_up l1 w g) : FR k tg σ W μ (I1, J1, r1, l2, q1) := by
  subst e
  refine ⟨h.1, h.2.1, h.2.2.1, fun p x y => ?_, h.2.2.2.2⟩
  show va_up l1 w g p = _
  rw [va_up_ne _ _ (by rw [hO]; exact y t hv)]
  exact h.2.2.2.1 p x y
theorem fr_Q {g : Nat → Option Nat} (h : FR k tg σ W μ (I1, J1, r1, l1, q1)) (hO : w = vrow σ t W) (hv : vok k t = true) (e : q2 = va_up q1 w g) : FR k tg σ W μ (I1, J1, r1, l1, q2) := by
  subst e
  refine ⟨h.1, h.2.1, h.2.2.1, h.2.2.2.1, fun p x y => ?_⟩
  show va_up q1 w g p = _
  rw [va_up_ne _ _ (by rw [hO]; exact y t hv)]
  exact h.2.2.2.2 p x y
theorem fr_R5 {g : Nat → Int32} (h : FR k tg σ W μ (I1, J1, r1, l1, q1)) (hT : tg w = t) (hc : t / 32 = 5) (e : r2 = va_up r1 w g) : FR k tg σ W μ (I1, J1, r2, l1, q1) := by
  subst e
  refine ⟨h.1, h.2.1, fun p x y => ?_, h.2.2.2⟩
  show va_up r1 w g p = _
  rw [va_up_ne _ _ (fun z => x (by rw [z, hT]; exact hc))]
  exact h.2.2.1 p x y
theorem fr_L5 {g : Nat → Int64} (h : FR k tg σ W μ (I1, J1, r1, l1, q1)) (hT : tg w = t) (hc : t / 32 = 5) (e : l2 = va_up l1 w g) : FR k tg σ W μ (I1, J1, r1, l2, q1) := by
  subst e
  refine ⟨h.1, h.2.1, h.2.2.1, fun p x y => ?_, h.2.2.2.2⟩
  show va_up l1 w g p = _
  rw [va_up_ne _ _ (fun z => x (by rw [z, hT]; exact hc))]
  exact h.2.2.2.1 p x y
/-! a tree that stands, read at a later version -/
theorem cI_e (h : FR k tg σ M (I0, J0, r0, l0, q0) (I1, J1, r1, l1, q1)) (hap : AP k tg σ M N) (hO : a = vo σ (f / 32) N) (hc : vcl k (f / 32) = true) : I1 f a = vI k σ N I0 f := by
  rw [show I1 f a = I0 f a from h.1 f a (vcl_5 hc) (fun _ => by rw [hO]; exact hap.2.2.1 _ hc)]
  exact vI_e hO hc
theorem cJ_e (h : FR k tg σ M (I0, J0, r0, l0, q0) (I1, J1, r1, l1, q1)) (hap : AP k tg σ M N) (hO : a = vo σ (f / 32) N) (hc : vcl k (f / 32) = true) : J1 f a = vJ k σ N J0 f := by
  rw [show J1 f a = J0 f a from h.2.1 f a (vcl_5 hc) (fun _ => by rw [hO]; exact hap.2.2.1 _ hc)]
  exact vJ_e hO hc
theorem ap_row (hap : AP k tg σ M N) (hv : vok k t = true) : tg (vrow σ t N) / 32 ≠ 5 ∧ ∀ t1, vok k t1 = true → vrow σ t N ≠ vrow σ t1 M := by
  have h1 := (hap.2.1.2.2 t hv).1
  refine ⟨by rw [h1]; exact vcl_5 (vok_c hv).2.1, fun t1 ht1 e => ?_⟩
  have h2 := (hap.1.2.2 t1 ht1).1
  rw [← e, h1] at h2
  subst h2
  exact hap.2.2.2 _ hv e
theorem cR_r {z : Int32} {i : Nat} (h : FR k tg σ M (I0, J0, r0, l0, q0) (I1, J1, r1, l1, q1)) (hap : AP k tg σ M N) (hO : w = vrow σ t N) (hv : vok k t = true) (e : z = r1 w i) : z = vR k σ N r0 t i := by
  have p := ap_row hap hv
  rw [show r1 w = r0 w from h.2.2.1 w (by rw [hO]; exact p.1) (by rw [hO]; exact p.2)] at e
  exact vR_r hO hv e
theorem cL_r {z : Int64} {i : Nat} (h : FR k tg σ M (I0, J0, r0, l0, q0) (I1, J1, r1, l1, q1)) (hap : AP k tg σ M N) (hO : w = vrow σ t N) (hv : vok k t = true) (e : z = l1 w i) : z = vL k σ N l0 t i := by
  have p := ap_row hap hv
  rw [show l1 w = l0 w from h.2.2.2.1 w (by rw [hO]; exact p.1) (by rw [hO]; exact p.2)] at e
  exact vL_r hO hv e
theorem cQ_r {z : Option Nat} {i : Nat} (h : FR k tg σ M (I0, J0, r0, l0, q0) (I1, J1, r1, l1, q1)) (hap : AP k tg σ M N) (hO : w = vrow σ t N) (hv : vok k t = true) (e : z = q1 w i) : z = vQ k σ N q0 t i := by
  have p := ap_row hap hv
  rw [show q1 w = q0 w from h.2.2.2.2 w (by rw [hO]; exact p.1) (by rw [hO]; exact p.2)] at e
  exact vQ_r hO hv e
theorem fr_cI (h : FR k tg σ M (I0, J0, r0, l0, q0) (I1, J1, r1, l1, q1)) (hap : AP k tg σ M N) : vI k σ N I1 = vI k σ N I0 := by
  funext f
  unfold vI
  split
  · next hc => exact h.1 f _ (vcl_5 hc) (fun _ => hap.2.2.1 _ hc)
  · rfl
theorem fr_cJ (h : FR k tg σ M (I0, J0, r0, l0, q0) (I1, J1, r1, l1, q1)) (hap : AP k tg σ M N) : vJ k σ N J1 = vJ k σ N J0 := by
  funext f
  unfold vJ
  split
  · next hc => exact h.2.1 f _ (vcl_5 hc) (fun _ => hap.2.2.1 _ hc)
  · rfl
theorem fr_cR (h : FR k tg σ M (I0, J0, r0, l0, q0) (I1, J1, r1, l1, q1)) (hap : AP k tg σ M N) : vR k σ N r1 = vR k σ N r0 := by
  funext t
  unfold vR
  split
  · next hv => exact h.2.2.1 _ (ap_row hap hv).1 (ap_row hap hv).2
  · rfl
theorem fr_cL (h : FR k tg σ M (I0, J0, r0, l0, q0) (I1, J1, r1, l1, q1)) (hap : AP k tg σ M N) : vL k σ N l1 = vL k σ N l0 := by
  funext t
  unfold vL
  split
  · next hv => exact h.2.2.2.1 _ (ap_row hap hv).1 (ap_row hap hv).2
  · rfl
theorem fr_cQ (h : FR k tg σ M (I0, J0, r0, l0, q0) (I1, J1, r1, l1, q1)) (hap : AP k tg σ M N) : vQ k σ N q1 = vQ k σ N q0 := by
  funext t
  unfold vQ
  split
  · next hv => exact h.2.2.2.2 _ (ap_row hap hv).1 (ap_row hap hv).2
  · rfl
/-! texts, outside the Worlds -/
theorem tI_e (h : FR 10 tg σ M (I0, J0, r0, l0, q0) (I1, J1, r1, l1, q1)) (hL : w ∈ σ.1) (hK : σ.2.1 w = 8) (hf : f / 32 = 8) : I1 f w = tI σ I0 f w := by
  unfold tI
  rw [if_pos ⟨hL, hK, hf⟩]
  exact h.1 f w (by rw [hf]; decide) (fun hc => by rw [hf] at hc; exact absurd hc (by decide))
theorem tx_row (hVT : VT 10 σ tg M) (hL : w ∈ σ.1) (hK : σ.2.1 w = 8) (ht : (ftp t).1 = 8) : tg (kd σ t w) / 32 ≠ 5 ∧ ∀ t1, vok 10 t1 = true → kd σ t w ≠ vrow σ t1 M := by
  have hc : t / 32 = 8 := by rcases ftp_c t with e | e <;> omega
  have h13 : 13 ≤ (ftp t).2.1 := by
    have : ∀ t, t < 416 → (ftp t).1 = 8 → 13 ≤ (ftp t).2.1 := by decide +kernel
    exact this t (by omega) ht
  obtain ⟨v, e1, e2, e3, e4⟩ := hVT.1 w hL t (by rw [ht, hK])
  have e5 : kd σ t w = v := (kd_e e1).symm
  have e6 := (e4 h13).2
  rw [e5]
  refine ⟨by rw [e6, hc]; decide, fun t1 ht1 e => ?_⟩
  have h2 := (hVT.2.2 t1 ht1).1
  rw [← e, e6] at h2
  have h3 := (vok_c ht1).2.1
  rw [← h2, hc] at h3
  exact absurd h3 (by decide)
theorem tR_r {z : Int32} {i p : Nat} (h : FR 10 tg σ M (I0, J0, r0, l0, q0) (I1, J1, r1, l1, q1)) (hVT : VT 10 σ tg M) (hL : w ∈ σ.1) (hK : σ.2.1 w = 8) (hR : σ.2.2.1 t w = some p) (_ : tg p = t) (ht : (ftp t).1 = 8) (e : z = r1 p i) : z = tR σ r0 t w i := by
  unfold tR
  rw [if_pos ⟨hL, hK, ht⟩]
  have x := tx_row hVT hL hK ht
  rw [kd_e hR, show r1 (kd σ t w) = r0 (kd σ t w) from h.2.2.1 _ x.1 x.2] at e
  exact e
theorem fr_tI (h : FR 10 tg σ M (I0, J0, r0, l0, q0) (I1, J1, r1, l1, q1)) (_ : VT 10 σ tg M) : tI σ I1 = tI σ I0 := by
  funext f w
  unfold tI
  split
  · next x => exact h.1 f w (by rw [x.2.2]; decide) (fun hc => by rw [x.2.2] at hc; exact absurd hc (by decide))
  · rfl
theorem fr_tR (h : FR 10 tg σ M (I0, J0, r0, l0, q0) (I1, J1, r1, l1, q1)) (hVT : VT 10 σ tg M) : tR σ r1 = tR σ r0 := by
  funext t w
  unfold tR
  split
  · next x => exact h.2.2.1 _ (tx_row hVT x.1 x.2.1 x.2.2).1 (tx_row hVT x.1 x.2.1 x.2.2).2
  · rfl
end VWS
