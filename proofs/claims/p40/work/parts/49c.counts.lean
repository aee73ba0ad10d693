/-! ===== counts: whose they are, what calls leave of them ===== -/
abbrev cf7 : List Nat := [320, 64, 65, 224, 10, 0, 32]
/-- the field of a World under which the owner of a count stands -/
def gfo (f : Nat) : Nat := if f = 64 ∨ f = 65 then 327 else if f = 224 then 326 else if f = 10 ∨ f = 0 then 328 else 330
def own (σ : pq_S) (f w : Nat) : Nat := if f = 320 then w else (σ.2.2.1 (gfo f) w).getD 0
theorem own_320 (σ : pq_S) (w : Nat) : own σ 320 w = w := if_pos rfl
theorem own_eq {σ : pq_S} {f g w q : Nat} (hg : gfo f = g) (hf : f ≠ 320) (h : σ.2.2.1 g w = some q) : own σ f w = q := by
  unfold own
  rw [if_neg hf, hg, h]
  rfl
/-- a World's counts are those of another one; all else of them stands -/
def UPC (σ : pq_S) (I I1 : Nat → Nat → Int32) (w v : Nat) : Prop := ∀ f, f ∈ cf7 → I1 f = va_up (I f) (own σ f w) (I f (own σ f v))
/-- no counts but a World's own may have changed -/
def FO (σ : pq_S) (T : Nat) (I I1 : Nat → Nat → Int32) : Prop := ∀ f, f ∈ cf7 → ∀ x, x ≠ own σ f T → I1 f x = I f x
theorem cf7_all {P : Nat → Prop} (h1 : P 320) (h2 : P 64) (h3 : P 65) (h4 : P 224) (h5 : P 10) (h6 : P 0) (h7 : P 32) : ∀ f, f ∈ cf7 → P f := fun f hf => by
  simp only [cf7, List.mem_cons, List.not_mem_nil, or_false] at hf
  rcases hf with q | q | q | q | q | q | q <;> (subst q; assumption)
theorem pq_uF {I I1 : Nat → Nat → Int32} {f a : Nat} {v : Int32} (e : I1 = pq_u I f a v) : I1 f = va_up (I f) a v := by
  subst e
  funext b
  by_cases hb : b = a
  · rw [hb, pq_us, va_up_self]
  · rw [pq_ua _ _ _ _ hb, va_up_ne _ _ hb]
theorem pq_uO {I I1 : Nat → Nat → Int32} {f g a : Nat} {v : Int32} (e : I1 = pq_u I g a v) (h : f ≠ g) : I1 f = I f := by
  subst e
  exact pq_uf _ _ _ h
theorem upc_mk {σ : pq_S} {I I1 : Nat → Nat → Int32} {w v s1 s2 l1 l2 k1 k2 g1 g2 : Nat} (r1 : σ.2.2.1 326 w = some s1) (r2 : σ.2.2.1 326 v = some s2) (r3 : σ.2.2.1 327 w = some l1) (r4 : σ.2.2.1 327 v = some l2) (r5 : σ.2.2.1 328 w = some k1) (r6 : σ.2.2.1 328 v = some k2) (r7 : σ.2.2.1 330 w = some g1) (r8 : σ.2.2.1 330 v = some g2)
    (h1 : I1 320 = va_up (I 320) w (I 320 v)) (h2 : I1 64 = va_up (I 64) l1 (I 64 l2)) (h3 : I1 65 = va_up (I 65) l1 (I 65 l2)) (h4 : I1 224 = va_up (I 224) s1 (I 224 s2)) (h5 : I1 10 = va_up (I 10) k1 (I 10 k2)) (h6 : I1 0 = va_up (I 0) k1 (I 0 k2)) (h7 : I1 32 = va_up (I 32) g1 (I 32 g2)) : UPC σ I I1 w v := by
  refine cf7_all ?_ ?_ ?_ ?_ ?_ ?_ ?_
  · rw [own_320, own_320]; exact h1
  · rw [own_eq (f := 64) rfl (by decide) r3, own_eq (f := 64) rfl (by decide) r4]; exact h2
  · rw [own_eq (f := 65) rfl (by decide) r3, own_eq (f := 65) rfl (by decide) r4]; exact h3
  · rw [own_eq (f := 224) rfl (by decide) r1, own_eq (f := 224) rfl (by decide) r2]; exact h4
  · rw [own_eq (f := 10) rfl (by decide) r5, own_eq (f := 10) rfl (by decide) r6]; exact h5
  · rw [own_eq (f := 0) rfl (by decide) r5, own_eq (f := 0) rfl (by decide) r6]; exact h6
  · rw [own_eq (f := 32) rfl (by decide) r7, own_eq (f := 32) rfl (by decide) r8]; exact h7
theorem upc_v {σ : pq_S} {I I1 : Nat → Nat → Int32} {w v : Nat} (h : UPC σ I I1 w v) : I1 320 v = I 320 v := by
  have e := congrFun (h 320 (by decide)) v
  rw [own_320, own_320] at e
  rw [e]
  by_cases hq : v = w
  · rw [← hq, va_up_self]
  · exact va_up_ne _ _ hq
theorem upc_w {σ : pq_S} {I I1 : Nat → Nat → Int32} {w v : Nat} (h : UPC σ I I1 w v) : I1 320 w = I 320 v := by
  have e := congrFun (h 320 (by decide)) w
  rw [own_320, own_320] at e
  rw [e, va_up_self]
theorem fo_rf {σ : pq_S} {T : Nat} {I : Nat → Nat → Int32} : FO σ T I I := fun _ _ _ _ => rfl
theorem fo_t {σ : pq_S} {T : Nat} {I I1 I2 : Nat → Nat → Int32} (h : FO σ T I I1) (h2 : FO σ T I1 I2) : FO σ T I I2 := fun f hf x hx => (h2 f hf x hx).trans (h f hf x hx)
theorem fo_p {σ : pq_S} {T : Nat} {I I1 : Nat → Nat → Int32} {v : Int32} (e : I1 = pq_u I 320 T v) : FO σ T I I1 := fun f hf x hx => by
  by_cases h : f = 320
  · subst h
    rw [own_320] at hx
    rw [pq_uF e, va_up_ne _ _ hx]
  · rw [pq_uO e h]
theorem fo_o {σ : pq_S} {T a g : Nat} {I I1 : Nat → Nat → Int32} {v : Int32} (e : I1 = pq_u I g a v) (hg : g ∉ cf7) : FO σ T I I1 := fun f hf x _ => by
  rw [pq_uO e (fun q => hg (q ▸ hf))]
theorem fo_c {X : List Nat} {tg : Nat → Nat} {σ : pq_S} {T : Nat} {I I1 r0 ri : Nat → Nat → Int32} {j0 rj : Nat → Nat → Int64} {rq : Nat → Nat → Option Nat} (h : GX X tg σ I r0 j0 I1 ri rj rq) (hX : ∀ f, f ∈ cf7 → f ∈ cfl ∧ f ∉ X) : FO σ T I I1 := fun f hf x _ => congrFun (h.2.1 f (hX f hf).1 (hX f hf).2) x
theorem fo_u {σ : pq_S} {T v : Nat} {I I1 : Nat → Nat → Int32} (h : UPC σ I I1 T v) : FO σ T I I1 := fun f hf x hx => by
  rw [h f hf]
  exact va_up_ne _ _ hx
/-- a count of one World's owner changes alone -/
def PU1 (f o : Nat) (I I1 : Nat → Nat → Int32) : Prop := ∀ x, x ≠ o → I1 f x = I f x
theorem pu_rf {f o : Nat} {I : Nat → Nat → Int32} : PU1 f o I I := fun _ _ => rfl
theorem pu_t {f o : Nat} {I I1 I2 : Nat → Nat → Int32} (h : PU1 f o I I1) (h2 : PU1 f o I1 I2) : PU1 f o I I2 := fun x hx => (h2 x hx).trans (h x hx)
theorem pu_p {f o : Nat} {I I1 : Nat → Nat → Int32} {v : Int32} (e : I1 = pq_u I f o v) : PU1 f o I I1 := fun x hx => by rw [pq_uF e, va_up_ne _ _ hx]
/-! ===== rows: whose they are, what calls leave of them ===== -/
abbrev rt0 : List Nat := [288, 33]
def fol (σ : pq_S) : List Nat → Nat → Nat
  | [], w => w
  | f :: fs, w => fol σ fs ((σ.2.2.1 f w).getD 0)
def pth (t : Nat) : List Nat := if t = 288 then [327, 78, 288] else [330, 33]
def rln (t : Nat) : Nat := if t = 288 then 40 else 30
def orow (σ : pq_S) (t w : Nat) : Nat := fol σ (pth t) w
theorem orow_288 {σ : pq_S} {w l k r : Nat} (h1 : σ.2.2.1 327 w = some l) (h2 : σ.2.2.1 78 l = some k) (h3 : σ.2.2.1 288 k = some r) : orow σ 288 w = r := by
  show fol σ [327, 78, 288] w = r
  simp only [fol, h1, h2, h3, Option.getD_some]
theorem orow_33 {σ : pq_S} {w g r : Nat} (h1 : σ.2.2.1 330 w = some g) (h2 : σ.2.2.1 33 g = some r) : orow σ 33 w = r := by
  show fol σ [330, 33] w = r
  simp only [fol, h1, h2, Option.getD_some]
theorem rt0_all {P : Nat → Prop} (h1 : P 288) (h2 : P 33) : ∀ t, t ∈ rt0 → P t := fun t ht => by
  simp only [rt0, List.mem_cons, List.not_mem_nil, or_false] at ht
  rcases ht with q | q <;> (subst q; assumption)
/-- a row becomes another's; all others of its field stand -/
def RCP (tg : Nat → Nat) (t n a b : Nat) (r r1 : Nat → Nat → Int32) : Prop := (∀ j, j < n → r1 a j = r b j) ∧ ∀ q, tg q = t → q ≠ a → r1 q = r q
def RID (tg : Nat → Nat) (t : Nat) (r r1 : Nat → Nat → Int32) : Prop := ∀ q, tg q = t → r1 q = r q
def UPR (σ : pq_S) (tg : Nat → Nat) (r r1 : Nat → Nat → Int32) (w v : Nat) : Prop := ∀ t, t ∈ rt0 → RCP tg t (rln t) (orow σ t w) (orow σ t v) r r1
/-- no rows of these fields but a World's own may have changed -/
def FR0 (σ : pq_S) (tg : Nat → Nat) (T : Nat) (r r1 : Nat → Nat → Int32) : Prop := ∀ t, t ∈ rt0 → ∀ q, tg q = t → q ≠ orow σ t T → r1 q = r q
section RWS
variable {σ : pq_S} {tg : Nat → Nat} {t n a b T w v : Nat} {r r1 r2 : Nat → Nat → Int32}
theorem rid_rf : RID tg t r r := fun _ _ => rfl
theorem rid_t (h : RID tg t r r1) (k : RID tg t r1 r2) : RID tg t r r2 := fun q hq => (k q hq).trans (h q hq)
theorem rid_w {q s : Nat} {g : Nat → Int32} (e : r1 = va_up r q g) (hs : tg q = s) (hn : t ≠ s) : RID tg t r r1 := fun p hp => by
  rw [e, va_up_ne _ _ (fun y => hn (by rw [← hp, ← hs, y]))]
theorem rid_c {X : List Nat} {I0 I : Nat → Nat → Int32} {j0 rj : Nat → Nat → Int64} {rq : Nat → Nat → Option Nat} (h : GX X tg σ I0 r j0 I r1 rj rq) (hX : t ∈ rtl ∧ 1000 + t ∉ X) : RID tg t r r1 := h.2.2.1 t hX.1 hX.2
theorem rcp_l (h : RID tg t r r1) (hb : tg b = t) (k : RCP tg t n a b r1 r2) : RCP tg t n a b r r2 := ⟨fun j hj => by rw [k.1 j hj, h b hb], fun q hq hn => (k.2 q hq hn).trans (h q hq)⟩
theorem rcp_r (k : RCP tg t n a b r r1) (ha : tg a = t) (h : RID tg t r1 r2) : RCP tg t n a b r r2 := ⟨fun j hj => by rw [h a ha]; exact k.1 j hj, fun q hq hn => (h q hq).trans (k.2 q hq hn)⟩
theorem fr_rf : FR0 σ tg T r r := fun _ _ _ _ _ => rfl
theorem fr_tt (h : FR0 σ tg T r r1) (k : FR0 σ tg T r1 r2) : FR0 σ tg T r r2 := fun t ht q hq hn => (k t ht q hq hn).trans (h t ht q hq hn)
theorem fr_u (h : UPR σ tg r r1 T v) : FR0 σ tg T r r1 := fun t ht q hq hn => (h t ht).2 q hq hn
theorem fr_c {X : List Nat} {I0 I : Nat → Nat → Int32} {j0 rj : Nat → Nat → Int64} {rq : Nat → Nat → Option Nat} (h : GX X tg σ I0 r j0 I r1 rj rq) (hX : ∀ t, t ∈ rt0 → t ∈ rtl ∧ 1000 + t ∉ X) : FR0 σ tg T r r1 := fun t ht q hq _ => h.2.2.1 t (hX t ht).1 (hX t ht).2 q hq
theorem fr_st {q s : Nat} {g : Nat → Int32} (e : r1 = va_up r q g) (hs : tg q = s) (hn : s ∉ rt0) : FR0 σ tg T r r1 := fun t ht p hp _ => by
  rw [e, va_up_ne _ _ (fun y => hn (by rw [← hs, ← y, hp]; exact ht))]
theorem fr_rc {n : Nat} (h : RCP tg 288 n a b r r1) (ho : orow σ 288 T = a) (k : RID tg 33 r r1) : FR0 σ tg T r r1 := rt0_all (fun q hq hn => h.2 q hq (fun y => hn (by rw [ho, y]))) (fun q hq _ => k q hq)
theorem upr_mk {l1 l2 k1 k2 a1 a2 g1 g2 c1 c2 : Nat} (h1 : σ.2.2.1 327 w = some l1) (h2 : σ.2.2.1 78 l1 = some k1) (h3 : σ.2.2.1 288 k1 = some a1) (h4 : σ.2.2.1 327 v = some l2) (h5 : σ.2.2.1 78 l2 = some k2) (h6 : σ.2.2.1 288 k2 = some a2) (h7 : σ.2.2.1 330 w = some g1) (h8 : σ.2.2.1 33 g1 = some c1) (h9 : σ.2.2.1 330 v = some g2) (h10 : σ.2.2.1 33 g2 = some c2)
    (e1 : RCP tg 288 40 a1 a2 r r1) (e2 : RCP tg 33 30 c1 c2 r r1) : UPR σ tg r r1 w v := by
  refine rt0_all ?_ ?_
  · rw [orow_288 h1 h2 h3, orow_288 h4 h5 h6]; exact e1
  · rw [orow_33 h7 h8, orow_33 h9 h10]; exact e2
/-- a row is written at one place; all others of its field stand -/
def RW1 (tg : Nat → Nat) (t a : Nat) (i : Nat) (x : Int32) (r r1 : Nat → Nat → Int32) : Prop := r1 a = upd (r a) i x ∧ ∀ q, tg q = t → q ≠ a → r1 q = r q
theorem rw1_w {i x : Int32} (e : r1 = va_up r a (upd (r a) i.toNatClampNeg x)) : RW1 tg t a i.toNatClampNeg x r r1 := ⟨by rw [e, va_up_self], fun q _ hn => by rw [e, va_up_ne _ _ hn]⟩
theorem rw1_r {i : Nat} {x : Int32} (k : RW1 tg t a i x r r1) (ha : tg a = t) (h : RID tg t r1 r2) : RW1 tg t a i x r r2 := ⟨by rw [h a ha]; exact k.1, fun q hq hn => (h q hq).trans (k.2 q hq hn)⟩
end RWS
set_option maxHeartbeats 4000000 in
set_option maxRecDepth 100000 in
theorem s_X7_copyFrom_w (l : Launch) (D : va_G) (t : pq_T) (σ : pq_S) (I : Nat → Nat → Int32) (J : Nat → Nat → Int64) (ri : Nat → Nat → Int32) (rj : Nat → Nat → Int64) (rq : Nat → Nat → Option Nat) (sz : Nat) (tg : Nat → Nat) (hSH : SH σ tg) (hG0 : GS tg σ I ri rq) (this : Nat) (a0 : Nat) (hL_this : this ∈ σ.1) (hK_this : σ.2.1 this = 7) (hL_a0 : a0 ∈ σ.1) (hK_a0 : σ.2.1 a0 = 7) : MetV l yX7_copyFrom (wa yX7_copyFrom cX7_copyFrom 2 none) ({ frames := 2, cells := 0, slots := 0, locals := 81 }) [.ref this, .ref a0] D t σ (I, J, ri, rj, rq) sz 0 0 (fun (u : pq_S × pq_M) => ∃ I' : Nat → Nat → Int32, ∃ ri' : Nat → Nat → Int32, u = (σ, I', J, ri', rj, rq) ∧ GX [224, 1225, 1226, 1227, 1228, 1229, 1230, 1231, 1232, 1233, 234, 235, 236] tg σ I ri rj I' ri' rj rq ∧ (I' 224 = va_up (I 224) this (I 224 a0))) := by
  refine Met.ofW (cc := cX7_copyFrom) (maxL := 2) (ret := none) (by decide) rfl ?_
  intro p e s m args below meth c s₁ B hml hv
  obtain ⟨rfl, hsz, hP, hK, hD0, hN⟩ := hv
  have hx := B.exec
  have hb := B.bytes
  have hr := B.returns
  have hts := atoms_spec (ws := (wa yX7_copyFrom cX7_copyFrom 2 none)) B.pre
  have hown : s.vm.findClass RX7 = some m.cls := findClass_of_methodNamed B.named
  have hlocks := B.notSynchronized
  subst hsz
  have hD : va_D (pq_B t σ (I, J, ri, rj, rq) s.heap.size) (pq_P t σ (I, J, ri, rj, rq)) := hD0.self
  generalize hAe : pq_B t σ (I, J, ri, rj, rq) s.heap.size = A at hD ⊢
  have hA : ∀ q : Nat, s.heap.size ≤ q → A q := fun q h => by rw [← hAe]; exact Or.inr h
  have hS : va_S A s.heap s.heap [] := va_S.rf
  have hG : GX [224, 1225, 1226, 1227, 1228, 1229, 1230, 1231, 1232, 1233, 234, 235, 236] tg σ I ri rj I ri rj rq := ⟨hG0, fun _ _ _ => rfl, fun _ _ _ _ _ => rfl, fun _ _ _ _ _ => rfl⟩
  have hl := lv_entry ([.ref this, .ref a0]) (n := 2) (Nat.le_of_ble_eq_true rfl)
  rw [lg_entry_eq]
  generalize (lg_sl ([.ref this, .ref a0]) ++ List.replicate (2 - (lg_sl ([.ref this, .ref a0])).length) Slot.unset).toArray = ls at hl ⊢
  have hl : lv_has ls 2 [(0, .ref this), (1, .ref a0)] := hl
  refine q_gen (fun Q hQ => ?_)
  have go : ∀ (H : Heap) (locs : List Loc) (ls : Array Slot), va_P D vwCl (pq_P t σ (I, J, ri, rj, rq)) H → va_D A (pq_P t σ (I, J, ri, rj, rq)) → va_S A s.heap H locs → lv_has ls 2 [(0, .ref this), (1, .ref a0)] → W p l e ({ frames := 2, cells := 0, slots := 0, locals := 81 } : Room) s m (List.toArray ([.ref this, .ref a0] : List Value)) below meth c H locs 0 0 Q (F0 m 0 ls []) := by
    intro H locs ls hP hD hS hl
    refine lv_aload_n hx hb dX7_copyFrom_0 rfl (lv_at hl 0 rfl) ?_
    refine lv_aload_n hx hb dX7_copyFrom_1 rfl (lv_at hl 1 rfl) ?_
    refine pg_f (v := .int (I 224 a0)) (C := RX7) (T := TX7) (N := 15) hx hb hts (tw_i inlX7) hown hK hP hL_a0 hK_a0 (by decide) rfl 0 (by decide) (hts _ (tw_c tw_254)) rfl dX7_copyFrom_2 ?_
    have h_1 : rg (I 224 a0) 0 200 := GX.rI hG 224 rfl
    refine pp_i (v := (I 224 a0)) (ty := .int) (C := RX7) (T := TX7) (N := 15) hx hb hts (tw_i inlX7) tyX7 tyX7_ok nmX7 hown hK hP hD hS hL_this hK_this (by decide) rfl 0 224 (by decide) (hts _ (tw_c tw_254)) rfl (tyX7_ok 0 (by decide)) rfl rfl (Nat.le_of_ble_eq_true rfl) (ps_224 _ _ _ _ _) dX7_copyFrom_5 (fun I_2 H locs eI_2 hP hD hS => ?_)
    have hG := GX.wI hG 224 rfl eI_2 (rg_w h_1 (by decide)) (by decide)
    refine lv_aload_n hx hb dX7_copyFrom_8 rfl (lv_at hl 1 rfl) ?_
    obtain ⟨w_3, hR_w_3, hL_w_3, hK_w_3, hN_w_3, hT_w_3⟩ := sh_a hSH 225 (ci := 7) (kd := 13) (len := 200) rfl (by decide) hL_a0 hK_a0
    refine pg_f (v := .ref w_3) (C := RX7) (T := TX7) (N := 15) hx hb hts (tw_i inlX7) hown hK hP hL_a0 hK_a0 (by decide) rfl 1 (by decide) (hts _ (tw_c tw_61)) (pq_hv rfl hR_w_3) dX7_copyFrom_9 ?_
    refine lv_aload_n hx hb dX7_copyFrom_12 rfl (lv_at hl 0 rfl) ?_
    obtain ⟨w_4, hR_w_4, hL_w_4, hK_w_4, hN_w_4, hT_w_4⟩ := sh_a hSH 225 (ci := 7) (kd := 13) (len := 200) rfl (by decide) hL_this hK_this
    refine pg_f (v := .ref w_4) (C := RX7) (T := TX7) (N := 15) hx hb hts (tw_i inlX7) hown hK hP hL_this hK_this (by decide) rfl 1 (by decide) (hts _ (tw_c tw_61)) (pq_hv rfl hR_w_4) dX7_copyFrom_13 ?_
    refine pk_v (va_runSN (As := [.ref w_3, .ref w_4]) (rest := []) ⟨hx, hb, hml, hown, hts⟩ (s_X11_copy_225_225 l D t σ I_2 J ri rj rq H.size tg hSH hG.1 w_3 w_4 hL_w_3 hK_w_3 hN_w_3 hT_w_3 hL_w_4 hK_w_4 hN_w_4 hT_w_4) ⟨va_cnB (host := "RingsUnder") 2 hts (tw_W tw_1102) rfl rfl rfl (nl_18 hN) (hts _ (tw_c tw_2)) cd_yX11_copy_2 ⟨Nat.le_of_ble_eq_true rfl, Nat.le_of_ble_eq_true rfl⟩, hts (.static yX11_copy) (tw_c tq_static_yX11_copy), trivial⟩ ⟨pq_blind, pq_pre hK hN hP hD⟩ rfl rfl hl.1 rfl (lv_room (Nat.le_of_ble_eq_true rfl)) dX7_copyFrom_16 ⟨Nat.le_of_ble_eq_true rfl, Nat.le_of_ble_eq_true rfl⟩) hD hS hA (fun σ1 μ1 H locs hw_6 hP hD hS => ?_)
    obtain ⟨ri_7, hu_8, hg_9, hp_11, hp_12⟩ := hw_6
    obtain ⟨hu_8a, hu_8b⟩ := Prod.mk.inj hu_8
    rw [hu_8a, hu_8b] at hP hD
    have hG := GX.tr hG hg_9 (by decide)
    refine lv_aload_n hx hb dX7_copyFrom_19 rfl (lv_at hl 1 rfl) ?_
    obtain ⟨w_13, hR_w_13, hL_w_13, hK_w_13, hN_w_13, hT_w_13⟩ := sh_a hSH 226 (ci := 7) (kd := 13) (len := 200) rfl (by decide) hL_a0 hK_a0
    refine pg_f (v := .ref w_13) (C := RX7) (T := TX7) (N := 15) hx hb hts (tw_i inlX7) hown hK hP hL_a0 hK_a0 (by decide) rfl 2 (by decide) (hts _ (tw_c tw_62)) (pq_hv rfl hR_w_13) dX7_copyFrom_20 ?_
    refine lv_aload_n hx hb dX7_copyFrom_23 rfl (lv_at hl 0 rfl) ?_
    obtain ⟨w_14, hR_w_14, hL_w_14, hK_w_14, hN_w_14, hT_w_14⟩ := sh_a hSH 226 (ci := 7) (kd := 13) (len := 200) rfl (by decide) hL_this hK_this
    refine pg_f (v := .ref w_14) (C := RX7) (T := TX7) (N := 15) hx hb hts (tw_i inlX7) hown hK hP hL_this hK_this (by decide) rfl 2 (by decide) (hts _ (tw_c tw_62)) (pq_hv rfl hR_w_14) dX7_copyFrom_24 ?_
    refine pk_v (va_runSN (As := [.ref w_13, .ref w_14]) (rest := []) ⟨hx, hb, hml, hown, hts⟩ (s_X11_copy_226_226 l D t σ I_2 J ri_7 rj rq H.size tg hSH hG.1 w_13 w_14 hL_w_13 hK_w_13 hN_w_13 hT_w_13 hL_w_14 hK_w_14 hN_w_14 hT_w_14) ⟨va_cnB (host := "RingsUnder") 2 hts (tw_W tw_1102) rfl rfl rfl (nl_18 hN) (hts _ (tw_c tw_2)) cd_yX11_copy_2 ⟨Nat.le_of_ble_eq_true rfl, Nat.le_of_ble_eq_true rfl⟩, hts (.static yX11_copy) (tw_c tq_static_yX11_copy), trivial⟩ ⟨pq_blind, pq_pre hK hN hP hD⟩ rfl rfl hl.1 rfl (lv_room (Nat.le_of_ble_eq_true rfl)) dX7_copyFrom_27 ⟨Nat.le_of_ble_eq_true rfl, Nat.le_of_ble_eq_true rfl⟩) hD hS hA (fun σ1 μ1 H locs hw_16 hP hD hS => ?_)
    obtain ⟨ri_17, hu_18, hg_19, hp_21, hp_22⟩ := hw_16
    obtain ⟨hu_18a, hu_18b⟩ := Prod.mk.inj hu_18
    rw [hu_18a, hu_18b] at hP hD
    have hG := GX.tr hG hg_19 (by decide)
    refine lv_aload_n hx hb dX7_copyFrom_30 rfl (lv_at hl 1 rfl) ?_
    obtain ⟨w_23, hR_w_23, hL_w_23, hK_w_23, hN_w_23, hT_w_23⟩ := sh_a hSH 227 (ci := 7) (kd := 13) (len := 200) rfl (by decide) hL_a0 hK_a0
    refine pg_f (v := .ref w_23) (C := RX7) (T := TX7) (N := 15) hx hb hts (tw_i inlX7) hown hK hP hL_a0 hK_a0 (by decide) rfl 3 (by decide) (hts _ (tw_c tw_63)) (pq_hv rfl hR_w_23) dX7_copyFrom_31 ?_
    refine lv_aload_n hx hb dX7_copyFrom_34 rfl (lv_at hl 0 rfl) ?_
    obtain ⟨w_24, hR_w_24, hL_w_24, hK_w_24, hN_w_24, hT_w_24⟩ := sh_a hSH 227 (ci := 7) (kd := 13) (len := 200) rfl (by decide) hL_this hK_this
    refine pg_f (v := .ref w_24) (C := RX7) (T := TX7) (N := 15) hx hb hts (tw_i inlX7) hown hK hP hL_this hK_this (by decide) rfl 3 (by decide) (hts _ (tw_c tw_63)) (pq_hv rfl hR_w_24) dX7_copyFrom_35 ?_
    refine pk_v (va_runSN (As := [.ref w_23, .ref w_24]) (rest := []) ⟨hx, hb, hml, hown, hts⟩ (s_X11_copy_227_227 l D t σ I_2 J ri_17 rj rq H.size tg hSH hG.1 w_23 w_24 hL_w_23 hK_w_23 hN_w_23 hT_w_23 hL_w_24 hK_w_24 hN_w_24 hT_w_24) ⟨va_cnB (host := "RingsUnder") 2 hts (tw_W tw_1102) rfl rfl rfl (nl_18 hN) (hts _ (tw_c tw_2)) cd_yX11_copy_2 ⟨Nat.le_of_ble_eq_true rfl, Nat.le_of_ble_eq_true rfl⟩, hts (.static yX11_copy) (tw_c tq_static_yX11_copy), trivial⟩ ⟨pq_blind, pq_pre hK hN hP hD⟩ rfl rfl hl.1 rfl (lv_room (Nat.le_of_ble_eq_true rfl)) dX7_copyFrom_38 ⟨Nat.le_of_ble_eq_true rfl, Nat.le_of_ble_eq_true rfl⟩) hD hS hA (fun σ1 μ1 H locs hw_26 hP hD hS => ?_)
    obtain ⟨ri_27, hu_28, hg_29, hp_31, hp_32⟩ := hw_26
    obtain ⟨hu_28a, hu_28b⟩ := Prod.mk.inj hu_28
    rw [hu_28a, hu_28b] at hP hD
    have hG := GX.tr hG hg_29 (by decide)
    refine lv_aload_n hx hb dX7_copyFrom_41 rfl (lv_at hl 1 rfl) ?_
    obtain ⟨w_33, hR_w_33, hL_w_33, hK_w_33, hN_w_33, hT_w_33⟩ := sh_a hSH 228 (ci := 7) (kd := 13) (len := 200) rfl (by decide) hL_a0 hK_a0
    refine pg_f (v := .ref w_33) (C := RX7) (T := TX7) (N := 15) hx hb hts (tw_i inlX7) hown hK hP hL_a0 hK_a0 (by decide) rfl 4 (by decide) (hts _ (tw_c tw_64)) (pq_hv rfl hR_w_33) dX7_copyFrom_42 ?_
    refine lv_aload_n hx hb dX7_copyFrom_45 rfl (lv_at hl 0 rfl) ?_
    obtain ⟨w_34, hR_w_34, hL_w_34, hK_w_34, hN_w_34, hT_w_34⟩ := sh_a hSH 228 (ci := 7) (kd := 13) (len := 200) rfl (by decide) hL_this hK_this
    refine pg_f (v := .ref w_34) (C := RX7) (T := TX7) (N := 15) hx hb hts (tw_i inlX7) hown hK hP hL_this hK_this (by decide) rfl 4 (by decide) (hts _ (tw_c tw_64)) (pq_hv rfl hR_w_34) dX7_copyFrom_46 ?_
    refine pk_v (va_runSN (As := [.ref w_33, .ref w_34]) (rest := []) ⟨hx, hb, hml, hown, hts⟩ (s_X11_copy_228_228 l D t σ I_2 J ri_27 rj rq H.size tg hSH hG.1 w_33 w_34 hL_w_33 hK_w_33 hN_w_33 hT_w_33 hL_w_34 hK_w_34 hN_w_34 hT_w_34) ⟨va_cnB (host := "RingsUnder") 2 hts (tw_W tw_1102) rfl rfl rfl (nl_18 hN) (hts _ (tw_c tw_2)) cd_yX11_copy_2 ⟨Nat.le_of_ble_eq_true rfl, Nat.le_of_ble_eq_true rfl⟩, hts (.static yX11_copy) (tw_c tq_static_yX11_copy), trivial⟩ ⟨pq_blind, pq_pre hK hN hP hD⟩ rfl rfl hl.1 rfl (lv_room (Nat.le_of_ble_eq_true rfl)) dX7_copyFrom_49 ⟨Nat.le_of_ble_eq_true rfl, Nat.le_of_ble_eq_true rfl⟩) hD hS hA (fun σ1 μ1 H locs hw_36 hP hD hS => ?_)
    obtain ⟨ri_37, hu_38, hg_39, hp_41, hp_42⟩ := hw_36
    obtain ⟨hu_38a, hu_38b⟩ := Prod.mk.inj hu_38
    rw [hu_38a, hu_38b] at hP hD
    have hG := GX.tr hG hg_39 (by decide)
    refine lv_aload_n hx hb dX7_copyFrom_52 rfl (lv_at hl 1 rfl) ?_
    obtain ⟨w_43, hR_w_43, hL_w_43, hK_w_43, hN_w_43, hT_w_43⟩ := sh_a hSH 229 (ci := 7) (kd := 13) (len := 12) rfl (by decide) hL_a0 hK_a0
    refine pg_f (v := .ref w_43) (C := RX7) (T := TX7) (N := 15) hx hb hts (tw_i inlX7) hown hK hP hL_a0 hK_a0 (by decide) rfl 5 (by decide) (hts _ (tw_c tw_65)) (pq_hv rfl hR_w_43) dX7_copyFrom_53 ?_
    refine lv_aload_n hx hb dX7_copyFrom_56 rfl (lv_at hl 0 rfl) ?_
    obtain ⟨w_44, hR_w_44, hL_w_44, hK_w_44, hN_w_44, hT_w_44⟩ := sh_a hSH 229 (ci := 7) (kd := 13) (len := 12) rfl (by decide) hL_this hK_this
    refine pg_f (v := .ref w_44) (C := RX7) (T := TX7) (N := 15) hx hb hts (tw_i inlX7) hown hK hP hL_this hK_this (by decide) rfl 5 (by decide) (hts _ (tw_c tw_65)) (pq_hv rfl hR_w_44) dX7_copyFrom_57 ?_
    refine pk_v (va_runSN (As := [.ref w_43, .ref w_44]) (rest := []) ⟨hx, hb, hml, hown, hts⟩ (s_X11_copy_229_229 l D t σ I_2 J ri_37 rj rq H.size tg hSH hG.1 w_43 w_44 hL_w_43 hK_w_43 hN_w_43 hT_w_43 hL_w_44 hK_w_44 hN_w_44 hT_w_44) ⟨va_cnB (host := "RingsUnder") 2 hts (tw_W tw_1102) rfl rfl rfl (nl_18 hN) (hts _ (tw_c tw_2)) cd_yX11_copy_2 ⟨Nat.le_of_ble_eq_true rfl, Nat.le_of_ble_eq_true rfl⟩, hts (.static yX11_copy) (tw_c tq_static_yX11_copy), trivial⟩ ⟨pq_blind, pq_pre hK hN hP hD⟩ rfl rfl hl.1 rfl (lv_room (Nat.le_of_ble_eq_true rfl)) dX7_copyFrom_60 ⟨Nat.le_of_ble_eq_true rfl, Nat.le_of_ble_eq_true rfl⟩) hD hS hA (fun σ1 μ1 H locs hw_46 hP hD hS => ?_)
    obtain ⟨ri_47, hu_48, hg_49, hp_51, hp_52⟩ := hw_46
    obtain ⟨hu_48a, hu_48b⟩ := Prod.mk.inj hu_48
    rw [hu_48a, hu_48b] at hP hD
    have hG := GX.tr hG hg_49 (by decide)
    refine lv_aload_n hx hb dX7_copyFrom_63 rfl (lv_at hl 1 rfl) ?_
    obtain ⟨w_53, hR_w_53, hL_w_53, hK_w_53, hN_w_53, hT_w_53⟩ := sh_a hSH 230 (ci := 7) (kd := 13) (len := 12) rfl (by decide) hL_a0 hK_a0
    refine pg_f (v := .ref w_53) (C := RX7) (T := TX7) (N := 15) hx hb hts (tw_i inlX7) hown hK hP hL_a0 hK_a0 (by decide) rfl 6 (by decide) (hts _ (tw_c tw_66)) (pq_hv rfl hR_w_53) dX7_copyFrom_64 ?_
    refine lv_aload_n hx hb dX7_copyFrom_67 rfl (lv_at hl 0 rfl) ?_
    obtain ⟨w_54, hR_w_54, hL_w_54, hK_w_54, hN_w_54, hT_w_54⟩ := sh_a hSH 230 (ci := 7) (kd := 13) (len := 12) rfl (by decide) hL_this hK_this
    refine pg_f (v := .ref w_54) (C := RX7) (T := TX7) (N := 15) hx hb hts (tw_i inlX7) hown hK hP hL_this hK_this (by decide) rfl 6 (by decide) (hts _ (tw_c tw_66)) (pq_hv rfl hR_w_54) dX7_copyFrom_68 ?_
    refine pk_v (va_runSN (As := [.ref w_53, .ref w_54]) (rest := []) ⟨hx, hb, hml, hown, hts⟩ (s_X11_copy_230_230 l D t σ I_2 J ri_47 rj rq H.size tg hSH hG.1 w_53 w_54 hL_w_53 hK_w_53 hN_w_53 hT_w_53 hL_w_54 hK_w_54 hN_w_54 hT_w_54) ⟨va_cnB (host := "RingsUnder") 2 hts (tw_W tw_1102) rfl rfl rfl (nl_18 hN) (hts _ (tw_c tw_2)) cd_yX11_copy_2 ⟨Nat.le_of_ble_eq_true rfl, Nat.le_of_ble_eq_true rfl⟩, hts (.static yX11_copy) (tw_c tq_static_yX11_copy), trivial⟩ ⟨pq_blind, pq_pre hK hN hP hD⟩ rfl rfl hl.1 rfl (lv_room (Nat.le_of_ble_eq_true rfl)) dX7_copyFrom_71 ⟨Nat.le_of_ble_eq_true rfl, Nat.le_of_ble_eq_true rfl⟩) hD hS hA (fun σ1 μ1 H locs hw_56 hP hD hS => ?_)
    obtain ⟨ri_57, hu_58, hg_59, hp_61, hp_62⟩ := hw_56
    obtain ⟨hu_58a, hu_58b⟩ := Prod.mk.inj hu_58
    rw [hu_58a, hu_58b] at hP hD
    have hG := GX.tr hG hg_59 (by decide)
    refine lv_aload_n hx hb dX7_copyFrom_74 rfl (lv_at hl 1 rfl) ?_
    obtain ⟨w_63, hR_w_63, hL_w_63, hK_w_63, hN_w_63, hT_w_63⟩ := sh_a hSH 231 (ci := 7) (kd := 13) (len := 12) rfl (by decide) hL_a0 hK_a0
    refine pg_f (v := .ref w_63) (C := RX7) (T := TX7) (N := 15) hx hb hts (tw_i inlX7) hown hK hP hL_a0 hK_a0 (by decide) rfl 7 (by decide) (hts _ (tw_c tw_67)) (pq_hv rfl hR_w_63) dX7_copyFrom_75 ?_
    refine lv_aload_n hx hb dX7_copyFrom_78 rfl (lv_at hl 0 rfl) ?_
    obtain ⟨w_64, hR_w_64, hL_w_64, hK_w_64, hN_w_64, hT_w_64⟩ := sh_a hSH 231 (ci := 7) (kd := 13) (len := 12) rfl (by decide) hL_this hK_this
    refine pg_f (v := .ref w_64) (C := RX7) (T := TX7) (N := 15) hx hb hts (tw_i inlX7) hown hK hP hL_this hK_this (by decide) rfl 7 (by decide) (hts _ (tw_c tw_67)) (pq_hv rfl hR_w_64) dX7_copyFrom_79 ?_
    refine pk_v (va_runSN (As := [.ref w_63, .ref w_64]) (rest := []) ⟨hx, hb, hml, hown, hts⟩ (s_X11_copy_231_231 l D t σ I_2 J ri_57 rj rq H.size tg hSH hG.1 w_63 w_64 hL_w_63 hK_w_63 hN_w_63 hT_w_63 hL_w_64 hK_w_64 hN_w_64 hT_w_64) ⟨va_cnB (host := "RingsUnder") 2 hts (tw_W tw_1102) rfl rfl rfl (nl_18 hN) (hts _ (tw_c tw_2)) cd_yX11_copy_2 ⟨Nat.le_of_ble_eq_true rfl, Nat.le_of_ble_eq_true rfl⟩, hts (.static yX11_copy) (tw_c tq_static_yX11_copy), trivial⟩ ⟨pq_blind, pq_pre hK hN hP hD⟩ rfl rfl hl.1 rfl (lv_room (Nat.le_of_ble_eq_true rfl)) dX7_copyFrom_82 ⟨Nat.le_of_ble_eq_true rfl, Nat.le_of_ble_eq_true rfl⟩) hD hS hA (fun σ1 μ1 H locs hw_66 hP hD hS => ?_)
    obtain ⟨ri_67, hu_68, hg_69, hp_71, hp_72⟩ := hw_66
    obtain ⟨hu_68a, hu_68b⟩ := Prod.mk.inj hu_68
    rw [hu_68a, hu_68b] at hP hD
    have hG := GX.tr hG hg_69 (by decide)
    refine lv_aload_n hx hb dX7_copyFrom_85 rfl (lv_at hl 1 rfl) ?_
    obtain ⟨w_73, hR_w_73, hL_w_73, hK_w_73, hN_w_73, hT_w_73⟩ := sh_a hSH 232 (ci := 7) (kd := 13) (len := 12) rfl (by decide) hL_a0 hK_a0
    refine pg_f (v := .ref w_73) (C := RX7) (T := TX7) (N := 15) hx hb hts (tw_i inlX7) hown hK hP hL_a0 hK_a0 (by decide) rfl 8 (by decide) (hts _ (tw_c tw_68)) (pq_hv rfl hR_w_73) dX7_copyFrom_86 ?_
    refine lv_aload_n hx hb dX7_copyFrom_89 rfl (lv_at hl 0 rfl) ?_
    obtain ⟨w_74, hR_w_74, hL_w_74, hK_w_74, hN_w_74, hT_w_74⟩ := sh_a hSH 232 (ci := 7) (kd := 13) (len := 12) rfl (by decide) hL_this hK_this
    refine pg_f (v := .ref w_74) (C := RX7) (T := TX7) (N := 15) hx hb hts (tw_i inlX7) hown hK hP hL_this hK_this (by decide) rfl 8 (by decide) (hts _ (tw_c tw_68)) (pq_hv rfl hR_w_74) dX7_copyFrom_90 ?_
    refine pk_v (va_runSN (As := [.ref w_73, .ref w_74]) (rest := []) ⟨hx, hb, hml, hown, hts⟩ (s_X11_copy_232_232 l D t σ I_2 J ri_67 rj rq H.size tg hSH hG.1 w_73 w_74 hL_w_73 hK_w_73 hN_w_73 hT_w_73 hL_w_74 hK_w_74 hN_w_74 hT_w_74) ⟨va_cnB (host := "RingsUnder") 2 hts (tw_W tw_1102) rfl rfl rfl (nl_18 hN) (hts _ (tw_c tw_2)) cd_yX11_copy_2 ⟨Nat.le_of_ble_eq_true rfl, Nat.le_of_ble_eq_true rfl⟩, hts (.static yX11_copy) (tw_c tq_static_yX11_copy), trivial⟩ ⟨pq_blind, pq_pre hK hN hP hD⟩ rfl rfl hl.1 rfl (lv_room (Nat.le_of_ble_eq_true rfl)) dX7_copyFrom_93 ⟨Nat.le_of_ble_eq_true rfl, Nat.le_of_ble_eq_true rfl⟩) hD hS hA (fun σ1 μ1 H locs hw_76 hP hD hS => ?_)
    obtain ⟨ri_77, hu_78, hg_79, hp_81, hp_82⟩ := hw_76
    obtain ⟨hu_78a, hu_78b⟩ := Prod.mk.inj hu_78
    rw [hu_78a, hu_78b] at hP hD
    have hG := GX.tr hG hg_79 (by decide)
    refine lv_aload_n hx hb dX7_copyFrom_96 rfl (lv_at hl 1 rfl) ?_
    obtain ⟨w_83, hR_w_83, hL_w_83, hK_w_83, hN_w_83, hT_w_83⟩ := sh_a hSH 233 (ci := 7) (kd := 13) (len := 12) rfl (by decide) hL_a0 hK_a0
    refine pg_f (v := .ref w_83) (C := RX7) (T := TX7) (N := 15) hx hb hts (tw_i inlX7) hown hK hP hL_a0 hK_a0 (by decide) rfl 9 (by decide) (hts _ (tw_c tw_69)) (pq_hv rfl hR_w_83) dX7_copyFrom_97 ?_
    refine lv_aload_n hx hb dX7_copyFrom_100 rfl (lv_at hl 0 rfl) ?_
    obtain ⟨w_84, hR_w_84, hL_w_84, hK_w_84, hN_w_84, hT_w_84⟩ := sh_a hSH 233 (ci := 7) (kd := 13) (len := 12) rfl (by decide) hL_this hK_this
    refine pg_f (v := .ref w_84) (C := RX7) (T := TX7) (N := 15) hx hb hts (tw_i inlX7) hown hK hP hL_this hK_this (by decide) rfl 9 (by decide) (hts _ (tw_c tw_69)) (pq_hv rfl hR_w_84) dX7_copyFrom_101 ?_
    refine pk_v (va_runSN (As := [.ref w_83, .ref w_84]) (rest := []) ⟨hx, hb, hml, hown, hts⟩ (s_X11_copy_233_233 l D t σ I_2 J ri_77 rj rq H.size tg hSH hG.1 w_83 w_84 hL_w_83 hK_w_83 hN_w_83 hT_w_83 hL_w_84 hK_w_84 hN_w_84 hT_w_84) ⟨va_cnB (host := "RingsUnder") 2 hts (tw_W tw_1102) rfl rfl rfl (nl_18 hN) (hts _ (tw_c tw_2)) cd_yX11_copy_2 ⟨Nat.le_of_ble_eq_true rfl, Nat.le_of_ble_eq_true rfl⟩, hts (.static yX11_copy) (tw_c tq_static_yX11_copy), trivial⟩ ⟨pq_blind, pq_pre hK hN hP hD⟩ rfl rfl hl.1 rfl (lv_room (Nat.le_of_ble_eq_true rfl)) dX7_copyFrom_104 ⟨Nat.le_of_ble_eq_true rfl, Nat.le_of_ble_eq_true rfl⟩) hD hS hA (fun σ1 μ1 H locs hw_86 hP hD hS => ?_)
    obtain ⟨ri_87, hu_88, hg_89, hp_91, hp_92⟩ := hw_86
    obtain ⟨hu_88a, hu_88b⟩ := Prod.mk.inj hu_88
    rw [hu_88a, hu_88b] at hP hD
    have hG := GX.tr hG hg_89 (by decide)
    refine lv_aload_n hx hb dX7_copyFrom_107 rfl (lv_at hl 0 rfl) ?_
    refine lv_aload_n hx hb dX7_copyFrom_108 rfl (lv_at hl 1 rfl) ?_
    refine pg_f (v := .int (I_2 234 a0)) (C := RX7) (T := TX7) (N := 15) hx hb hts (tw_i inlX7) hown hK hP hL_a0 hK_a0 (by decide) rfl 10 (by decide) (hts _ (tw_c tw_70)) rfl dX7_copyFrom_109 ?_
    refine pp_i (v := (I_2 234 a0)) (ty := .int) (C := RX7) (T := TX7) (N := 15) hx hb hts (tw_i inlX7) tyX7 tyX7_ok nmX7 hown hK hP hD hS hL_this hK_this (by decide) rfl 10 234 (by decide) (hts _ (tw_c tw_70)) rfl (tyX7_ok 10 (by decide)) rfl rfl (Nat.le_of_ble_eq_true rfl) (ps_234 _ _ _ _ _) dX7_copyFrom_112 (fun I_93 H locs eI_93 hP hD hS => ?_)
    have hG := GX.wI hG 234 rfl eI_93 (rg_w (rg_full _) (by decide)) (by decide)
    refine lv_aload_n hx hb dX7_copyFrom_115 rfl (lv_at hl 0 rfl) ?_
    refine lv_aload_n hx hb dX7_copyFrom_116 rfl (lv_at hl 1 rfl) ?_
    refine pg_f (v := .int (I_93 235 a0)) (C := RX7) (T := TX7) (N := 15) hx hb hts (tw_i inlX7) hown hK hP hL_a0 hK_a0 (by decide) rfl 11 (by decide) (hts _ (tw_c tw_71)) rfl dX7_copyFrom_117 ?_
    refine pp_i (v := (I_93 235 a0)) (ty := .int) (C := RX7) (T := TX7) (N := 15) hx hb hts (tw_i inlX7) tyX7 tyX7_ok nmX7 hown hK hP hD hS hL_this hK_this (by decide) rfl 11 235 (by decide) (hts _ (tw_c tw_71)) rfl (tyX7_ok 11 (by decide)) rfl rfl (Nat.le_of_ble_eq_true rfl) (ps_235 _ _ _ _ _) dX7_copyFrom_120 (fun I_94 H locs eI_94 hP hD hS => ?_)
    have hG := GX.wI hG 235 rfl eI_94 (rg_w (rg_full _) (by decide)) (by decide)
    refine lv_aload_n hx hb dX7_copyFrom_123 rfl (lv_at hl 0 rfl) ?_
    refine lv_aload_n hx hb dX7_copyFrom_124 rfl (lv_at hl 1 rfl) ?_
    refine pg_f (v := .int (I_94 236 a0)) (C := RX7) (T := TX7) (N := 15) hx hb hts (tw_i inlX7) hown hK hP hL_a0 hK_a0 (by decide) rfl 12 (by decide) (hts _ (tw_c tw_72)) rfl dX7_copyFrom_125 ?_
    refine pp_i (v := (I_94 236 a0)) (ty := .int) (C := RX7) (T := TX7) (N := 15) hx hb hts (tw_i inlX7) tyX7 tyX7_ok nmX7 hown hK hP hD hS hL_this hK_this (by decide) rfl 12 236 (by decide) (hts _ (tw_c tw_72)) rfl (tyX7_ok 12 (by decide)) rfl rfl (Nat.le_of_ble_eq_true rfl) (ps_236 _ _ _ _ _) dX7_copyFrom_128 (fun I_95 H locs eI_95 hP hD hS => ?_)
    have hG := GX.wI hG 236 rfl eI_95 (rg_w (rg_full _) (by decide)) (by decide)
    refine lv_aload_n hx hb dX7_copyFrom_131 rfl (lv_at hl 0 rfl) ?_
    refine lv_aload_n hx hb dX7_copyFrom_132 rfl (lv_at hl 1 rfl) ?_
    refine pg_f (v := .int (I_95 237 a0)) (C := RX7) (T := TX7) (N := 15) hx hb hts (tw_i inlX7) hown hK hP hL_a0 hK_a0 (by decide) rfl 13 (by decide) (hts _ (tw_c tw_73)) rfl dX7_copyFrom_133 ?_
    have h_96 : rg (I_95 237 a0) 0 20 := GX.rI hG 237 rfl
    refine pp_i (v := (I_95 237 a0)) (ty := .int) (C := RX7) (T := TX7) (N := 15) hx hb hts (tw_i inlX7) tyX7 tyX7_ok nmX7 hown hK hP hD hS hL_this hK_this (by decide) rfl 13 237 (by decide) (hts _ (tw_c tw_73)) rfl (tyX7_ok 13 (by decide)) rfl rfl (Nat.le_of_ble_eq_true rfl) (ps_237 _ _ _ _ _) dX7_copyFrom_136 (fun I_97 H locs eI_97 hP hD hS => ?_)
    have hG := GX.wI hG 237 rfl eI_97 (rg_w h_96 (by decide)) (by decide)
    refine lv_aload_n hx hb dX7_copyFrom_139 rfl (lv_at hl 0 rfl) ?_
    refine lv_aload_n hx hb dX7_copyFrom_140 rfl (lv_at hl 1 rfl) ?_
    refine pg_f (v := .int (I_97 238 a0)) (C := RX7) (T := TX7) (N := 15) hx hb hts (tw_i inlX7) hown hK hP hL_a0 hK_a0 (by decide) rfl 14 (by decide) (hts _ (tw_c tw_74)) rfl dX7_copyFrom_141 ?_
    refine pp_i (v := (I_97 238 a0)) (ty := .int) (C := RX7) (T := TX7) (N := 15) hx hb hts (tw_i inlX7) tyX7 tyX7_ok nmX7 hown hK hP hD hS hL_this hK_this (by decide) rfl 14 238 (by decide) (hts _ (tw_c tw_74)) rfl (tyX7_ok 14 (by decide)) rfl rfl (Nat.le_of_ble_eq_true rfl) (ps_238 _ _ _ _ _) dX7_copyFrom_144 (fun I_98 H locs eI_98 hP hD hS => ?_)
    have hG := GX.wI hG 238 rfl eI_98 (rg_w (rg_full _) (by decide)) (by decide)
    subst hQ
    exact W.vret hx hb hr (fun t1 ht hW => ⟨⟨(σ, I_98, J, ri_87, rj, rq), rfl, ⟨I_98, ri_87, rfl, hG, (by rw [(pq_uO (f := 224) eI_98 (by decide)), (pq_uO (f := 224) eI_97 (by decide)), (pq_uO (f := 224) eI_95 (by decide)), (pq_uO (f := 224) eI_94 (by decide)), (pq_uO (f := 224) eI_93 (by decide)), (pq_uF eI_2)])⟩, by rw [ht]; exact hP, va_K.moved hW.alike hK, hD⟩, hS.F ht⟩) hS.2.2 dX7_copyFrom_147
  exact go _ _ _ hP hD hS hl

set_option maxHeartbeats 4000000 in
set_option maxRecDepth 100000 in
theorem s_X9_copyFrom_w (l : Launch) (D : va_G) (t : pq_T) (σ : pq_S) (I : Nat → Nat → Int32) (J : Nat → Nat → Int64) (ri : Nat → Nat → Int32) (rj : Nat → Nat → Int64) (rq : Nat → Nat → Option Nat) (sz : Nat) (tg : Nat → Nat) (hSH : SH σ tg) (hG0 : GS tg σ I ri rq) (this : Nat) (a0 : Nat) (hL_this : this ∈ σ.1) (hK_this : σ.2.1 this = 9) (hL_a0 : a0 ∈ σ.1) (hK_a0 : σ.2.1 a0 = 9) (this_gathers : Nat) (hR_this_gathers : σ.2.2.1 288 this = some this_gathers) (hL_this_gathers : this_gathers ∈ σ.1) (hK_this_gathers : σ.2.1 this_gathers = 13) (hN_this_gathers : σ.2.2.2 this_gathers = 40) (hT_this_gathers : tg this_gathers = 288) (a0_gathers : Nat) (hR_a0_gathers : σ.2.2.1 288 a0 = some a0_gathers) (hL_a0_gathers : a0_gathers ∈ σ.1) (hK_a0_gathers : σ.2.1 a0_gathers = 13) (hN_a0_gathers : σ.2.2.2 a0_gathers = 40) (hT_a0_gathers : tg a0_gathers = 288) : MetV l yX9_copyFrom (wa yX9_copyFrom cX9_copyFrom 2 none) ({ frames := 2, cells := 0, slots := 0, locals := 81 }) [.ref this, .ref a0] D t σ (I, J, ri, rj, rq) sz 0 0 (fun (u : pq_S × pq_M) => ∃ ri' : Nat → Nat → Int32, u = (σ, I, J, ri', rj, rq) ∧ GX [1288] tg σ I ri rj I ri' rj rq ∧ (RCP tg 288 40 this_gathers a0_gathers ri ri')) := by
  refine Met.ofW (cc := cX9_copyFrom) (maxL := 2) (ret := none) (by decide) rfl ?_
  intro p e s m args below meth c s₁ B hml hv
  obtain ⟨rfl, hsz, hP, hK, hD0, hN⟩ := hv
  have hx := B.exec
  have hb := B.bytes
  have hr := B.returns
  have hts := atoms_spec (ws := (wa yX9_copyFrom cX9_copyFrom 2 none)) B.pre
  have hown : s.vm.findClass RX9 = some m.cls := findClass_of_methodNamed B.named
  have hlocks := B.notSynchronized
  subst hsz
  have hD : va_D (pq_B t σ (I, J, ri, rj, rq) s.heap.size) (pq_P t σ (I, J, ri, rj, rq)) := hD0.self
  generalize hAe : pq_B t σ (I, J, ri, rj, rq) s.heap.size = A at hD ⊢
  have hA : ∀ q : Nat, s.heap.size ≤ q → A q := fun q h => by rw [← hAe]; exact Or.inr h
  have hS : va_S A s.heap s.heap [] := va_S.rf
  have hG : GX [1288] tg σ I ri rj I ri rj rq := ⟨hG0, fun _ _ _ => rfl, fun _ _ _ _ _ => rfl, fun _ _ _ _ _ => rfl⟩
  have hl := lv_entry ([.ref this, .ref a0]) (n := 2) (Nat.le_of_ble_eq_true rfl)
  rw [lg_entry_eq]
  generalize (lg_sl ([.ref this, .ref a0]) ++ List.replicate (2 - (lg_sl ([.ref this, .ref a0])).length) Slot.unset).toArray = ls at hl ⊢
  have hl : lv_has ls 2 [(0, .ref this), (1, .ref a0)] := hl
  refine q_gen (fun Q hQ => ?_)
  have go : ∀ (H : Heap) (locs : List Loc) (ls : Array Slot), va_P D vwCl (pq_P t σ (I, J, ri, rj, rq)) H → va_D A (pq_P t σ (I, J, ri, rj, rq)) → va_S A s.heap H locs → lv_has ls 2 [(0, .ref this), (1, .ref a0)] → W p l e ({ frames := 2, cells := 0, slots := 0, locals := 81 } : Room) s m (List.toArray ([.ref this, .ref a0] : List Value)) below meth c H locs 0 0 Q (F0 m 0 ls []) := by
    intro H locs ls hP hD hS hl
    refine lv_aload_n hx hb dX9_copyFrom_0 rfl (lv_at hl 1 rfl) ?_
    refine pg_f (v := .ref a0_gathers) (C := RX9) (T := TX9) (N := 3) hx hb hts (tw_i inlX9) hown hK hP hL_a0 hK_a0 (by decide) rfl 0 (by decide) (hts _ (tw_c tw_104)) (pq_hv rfl hR_a0_gathers) dX9_copyFrom_1 ?_
    refine lv_aload_n hx hb dX9_copyFrom_4 rfl (lv_at hl 0 rfl) ?_
    refine pg_f (v := .ref this_gathers) (C := RX9) (T := TX9) (N := 3) hx hb hts (tw_i inlX9) hown hK hP hL_this hK_this (by decide) rfl 0 (by decide) (hts _ (tw_c tw_104)) (pq_hv rfl hR_this_gathers) dX9_copyFrom_5 ?_
    refine pk_v (va_runSN (As := [.ref a0_gathers, .ref this_gathers]) (rest := []) ⟨hx, hb, hml, hown, hts⟩ (s_X11_copy_288_288 l D t σ I J ri rj rq H.size tg hSH hG.1 a0_gathers this_gathers hL_a0_gathers hK_a0_gathers hN_a0_gathers hT_a0_gathers hL_this_gathers hK_this_gathers hN_this_gathers hT_this_gathers) ⟨va_cnB (host := "RingsUnder") 2 hts (tw_W tw_1102) rfl rfl rfl (nl_20 hN) (hts _ (tw_c tw_2)) cd_yX11_copy_2 ⟨Nat.le_of_ble_eq_true rfl, Nat.le_of_ble_eq_true rfl⟩, hts (.static yX11_copy) (tw_c tq_static_yX11_copy), trivial⟩ ⟨pq_blind, pq_pre hK hN hP hD⟩ rfl rfl hl.1 rfl (lv_room (Nat.le_of_ble_eq_true rfl)) dX9_copyFrom_8 ⟨Nat.le_of_ble_eq_true rfl, Nat.le_of_ble_eq_true rfl⟩) hD hS hA (fun σ1 μ1 H locs hw_2 hP hD hS => ?_)
    obtain ⟨ri_3, hu_4, hg_5, hp_7, hp_8⟩ := hw_2
    obtain ⟨hu_4a, hu_4b⟩ := Prod.mk.inj hu_4
    rw [hu_4a, hu_4b] at hP hD
    have hG := GX.tr hG hg_5 (by decide)
    refine lv_aload_n hx hb dX9_copyFrom_11 rfl (lv_at hl 1 rfl) ?_
    obtain ⟨w_9, hR_w_9, hL_w_9, hK_w_9, hN_w_9, hT_w_9⟩ := sh_a hSH 289 (ci := 9) (kd := 13) (len := 40) rfl (by decide) hL_a0 hK_a0
    refine pg_f (v := .ref w_9) (C := RX9) (T := TX9) (N := 3) hx hb hts (tw_i inlX9) hown hK hP hL_a0 hK_a0 (by decide) rfl 1 (by decide) (hts _ (tw_c tw_105)) (pq_hv rfl hR_w_9) dX9_copyFrom_12 ?_
    refine lv_aload_n hx hb dX9_copyFrom_15 rfl (lv_at hl 0 rfl) ?_
    obtain ⟨w_10, hR_w_10, hL_w_10, hK_w_10, hN_w_10, hT_w_10⟩ := sh_a hSH 289 (ci := 9) (kd := 13) (len := 40) rfl (by decide) hL_this hK_this
    refine pg_f (v := .ref w_10) (C := RX9) (T := TX9) (N := 3) hx hb hts (tw_i inlX9) hown hK hP hL_this hK_this (by decide) rfl 1 (by decide) (hts _ (tw_c tw_105)) (pq_hv rfl hR_w_10) dX9_copyFrom_16 ?_
    refine pk_v (va_runSN (As := [.ref w_9, .ref w_10]) (rest := []) ⟨hx, hb, hml, hown, hts⟩ (s_X11_copy_289_289 l D t σ I J ri_3 rj rq H.size tg hSH hG.1 w_9 w_10 hL_w_9 hK_w_9 hN_w_9 hT_w_9 hL_w_10 hK_w_10 hN_w_10 hT_w_10) ⟨va_cnB (host := "RingsUnder") 2 hts (tw_W tw_1102) rfl rfl rfl (nl_20 hN) (hts _ (tw_c tw_2)) cd_yX11_copy_2 ⟨Nat.le_of_ble_eq_true rfl, Nat.le_of_ble_eq_true rfl⟩, hts (.static yX11_copy) (tw_c tq_static_yX11_copy), trivial⟩ ⟨pq_blind, pq_pre hK hN hP hD⟩ rfl rfl hl.1 rfl (lv_room (Nat.le_of_ble_eq_true rfl)) dX9_copyFrom_19 ⟨Nat.le_of_ble_eq_true rfl, Nat.le_of_ble_eq_true rfl⟩) hD hS hA (fun σ1 μ1 H locs hw_12 hP hD hS => ?_)
    obtain ⟨ri_13, hu_14, hg_15, hp_17, hp_18⟩ := hw_12
    obtain ⟨hu_14a, hu_14b⟩ := Prod.mk.inj hu_14
    rw [hu_14a, hu_14b] at hP hD
    have hG := GX.tr hG hg_15 (by decide)
    refine lv_aload_n hx hb dX9_copyFrom_22 rfl (lv_at hl 1 rfl) ?_
    obtain ⟨w_19, hR_w_19, hL_w_19, hK_w_19, hN_w_19, hT_w_19⟩ := sh_a hSH 290 (ci := 9) (kd := 13) (len := 40) rfl (by decide) hL_a0 hK_a0
    refine pg_f (v := .ref w_19) (C := RX9) (T := TX9) (N := 3) hx hb hts (tw_i inlX9) hown hK hP hL_a0 hK_a0 (by decide) rfl 2 (by decide) (hts _ (tw_c tw_106)) (pq_hv rfl hR_w_19) dX9_copyFrom_23 ?_
    refine lv_aload_n hx hb dX9_copyFrom_26 rfl (lv_at hl 0 rfl) ?_
    obtain ⟨w_20, hR_w_20, hL_w_20, hK_w_20, hN_w_20, hT_w_20⟩ := sh_a hSH 290 (ci := 9) (kd := 13) (len := 40) rfl (by decide) hL_this hK_this
    refine pg_f (v := .ref w_20) (C := RX9) (T := TX9) (N := 3) hx hb hts (tw_i inlX9) hown hK hP hL_this hK_this (by decide) rfl 2 (by decide) (hts _ (tw_c tw_106)) (pq_hv rfl hR_w_20) dX9_copyFrom_27 ?_
    refine pk_v (va_runSN (As := [.ref w_19, .ref w_20]) (rest := []) ⟨hx, hb, hml, hown, hts⟩ (s_X11_copy_290_290 l D t σ I J ri_13 rj rq H.size tg hSH hG.1 w_19 w_20 hL_w_19 hK_w_19 hN_w_19 hT_w_19 hL_w_20 hK_w_20 hN_w_20 hT_w_20) ⟨va_cnB (host := "RingsUnder") 2 hts (tw_W tw_1102) rfl rfl rfl (nl_20 hN) (hts _ (tw_c tw_2)) cd_yX11_copy_2 ⟨Nat.le_of_ble_eq_true rfl, Nat.le_of_ble_eq_true rfl⟩, hts (.static yX11_copy) (tw_c tq_static_yX11_copy), trivial⟩ ⟨pq_blind, pq_pre hK hN hP hD⟩ rfl rfl hl.1 rfl (lv_room (Nat.le_of_ble_eq_true rfl)) dX9_copyFrom_30 ⟨Nat.le_of_ble_eq_true rfl, Nat.le_of_ble_eq_true rfl⟩) hD hS hA (fun σ1 μ1 H locs hw_22 hP hD hS => ?_)
    obtain ⟨ri_23, hu_24, hg_25, hp_27, hp_28⟩ := hw_22
    obtain ⟨hu_24a, hu_24b⟩ := Prod.mk.inj hu_24
    rw [hu_24a, hu_24b] at hP hD
    have hG := GX.tr hG hg_25 (by decide)
    subst hQ
    exact W.vret hx hb hr (fun t1 ht hW => ⟨⟨(σ, I, J, ri_23, rj, rq), rfl, ⟨ri_23, rfl, hG, (rcp_r (rcp_r ⟨hp_7, fun q _ hq => hp_8 q hq⟩ hT_this_gathers (rid_c hg_15 (by decide))) hT_this_gathers (rid_c hg_25 (by decide)))⟩, by rw [ht]; exact hP, va_K.moved hW.alike hK, hD⟩, hS.F ht⟩) hS.2.2 dX9_copyFrom_33
  exact go _ _ _ hP hD hS hl

set_option maxHeartbeats 4000000 in
set_option maxRecDepth 100000 in
theorem s_X2_copyFrom_w (l : Launch) (D : va_G) (t : pq_T) (σ : pq_S) (I : Nat → Nat → Int32) (J : Nat → Nat → Int64) (ri : Nat → Nat → Int32) (rj : Nat → Nat → Int64) (rq : Nat → Nat → Option Nat) (sz : Nat) (tg : Nat → Nat) (hSH : SH σ tg) (hG0 : GS tg σ I ri rq) (this : Nat) (a0 : Nat) (hL_this : this ∈ σ.1) (hK_this : σ.2.1 this = 2) (hL_a0 : a0 ∈ σ.1) (hK_a0 : σ.2.1 a0 = 2) (this_wells : Nat) (hR_this_wells : σ.2.2.1 78 this = some this_wells) (hL_this_wells : this_wells ∈ σ.1) (hK_this_wells : σ.2.1 this_wells = 9) (a0_wells : Nat) (hR_a0_wells : σ.2.2.1 78 a0 = some a0_wells) (hL_a0_wells : a0_wells ∈ σ.1) (hK_a0_wells : σ.2.1 a0_wells = 9) (this_gathers : Nat) (hR_this_gathers : σ.2.2.1 288 this_wells = some this_gathers) (hL_this_gathers : this_gathers ∈ σ.1) (hK_this_gathers : σ.2.1 this_gathers = 13) (hN_this_gathers : σ.2.2.2 this_gathers = 40) (hT_this_gathers : tg this_gathers = 288) (a0_gathers : Nat) (hR_a0_gathers : σ.2.2.1 288 a0_wells = some a0_gathers) (hL_a0_gathers : a0_gathers ∈ σ.1) (hK_a0_gathers : σ.2.1 a0_gathers = 13) (hN_a0_gathers : σ.2.2.2 a0_gathers = 40) (hT_a0_gathers : tg a0_gathers = 288) : MetV l yX2_copyFrom (wa yX2_copyFrom cX2_copyFrom 2 none) ({ frames := 3, cells := 0, slots := 0, locals := 102 }) [.ref this, .ref a0] D t σ (I, J, ri, rj, rq) sz 0 0 (fun (u : pq_S × pq_M) => ∃ I' : Nat → Nat → Int32, ∃ J' : Nat → Nat → Int64, ∃ ri' : Nat → Nat → Int32, ∃ rj' : Nat → Nat → Int64, u = (σ, I', J', ri', rj', rq) ∧ GX [64, 65, 1069, 1070, 1073, 1074, 1075, 1288, 1079] tg σ I ri rj I' ri' rj' rq ∧ (I' 64 = va_up (I 64) this (I 64 a0)) ∧ (I' 65 = va_up (I 65) this (I 65 a0)) ∧ (RCP tg 288 40 this_gathers a0_gathers ri ri')) := by
  refine Met.ofW (cc := cX2_copyFrom) (maxL := 2) (ret := none) (by decide) rfl ?_
  intro p e s m args below meth c s₁ B hml hv
  obtain ⟨rfl, hsz, hP, hK, hD0, hN⟩ := hv
  have hx := B.exec
  have hb := B.bytes
  have hr := B.returns
  have hts := atoms_spec (ws := (wa yX2_copyFrom cX2_copyFrom 2 none)) B.pre
  have hown : s.vm.findClass RX2 = some m.cls := findClass_of_methodNamed B.named
  have hlocks := B.notSynchronized
  subst hsz
  have hD : va_D (pq_B t σ (I, J, ri, rj, rq) s.heap.size) (pq_P t σ (I, J, ri, rj, rq)) := hD0.self
  generalize hAe : pq_B t σ (I, J, ri, rj, rq) s.heap.size = A at hD ⊢
  have hA : ∀ q : Nat, s.heap.size ≤ q → A q := fun q h => by rw [← hAe]; exact Or.inr h
  have hS : va_S A s.heap s.heap [] := va_S.rf
  have hG : GX [64, 65, 1069, 1070, 1073, 1074, 1075, 1288, 1079] tg σ I ri rj I ri rj rq := ⟨hG0, fun _ _ _ => rfl, fun _ _ _ _ _ => rfl, fun _ _ _ _ _ => rfl⟩
  have hl := lv_entry ([.ref this, .ref a0]) (n := 2) (Nat.le_of_ble_eq_true rfl)
  rw [lg_entry_eq]
  generalize (lg_sl ([.ref this, .ref a0]) ++ List.replicate (2 - (lg_sl ([.ref this, .ref a0])).length) Slot.unset).toArray = ls at hl ⊢
  have hl : lv_has ls 2 [(0, .ref this), (1, .ref a0)] := hl
  refine q_gen (fun Q hQ => ?_)
  have go : ∀ (H : Heap) (locs : List Loc) (ls : Array Slot), va_P D vwCl (pq_P t σ (I, J, ri, rj, rq)) H → va_D A (pq_P t σ (I, J, ri, rj, rq)) → va_S A s.heap H locs → lv_has ls 2 [(0, .ref this), (1, .ref a0)] → W p l e ({ frames := 3, cells := 0, slots := 0, locals := 102 } : Room) s m (List.toArray ([.ref this, .ref a0] : List Value)) below meth c H locs 0 0 Q (F0 m 0 ls []) := by
    intro H locs ls hP hD hS hl
    refine lv_aload_n hx hb dX2_copyFrom_0 rfl (lv_at hl 0 rfl) ?_
    refine lv_aload_n hx hb dX2_copyFrom_1 rfl (lv_at hl 1 rfl) ?_
    refine pg_f (v := .int (I 64 a0)) (C := RX2) (T := TX2) (N := 20) hx hb hts (tw_i inlX2) hown hK hP hL_a0 hK_a0 (by decide) rfl 0 (by decide) (hts _ (tw_c tw_1374)) rfl dX2_copyFrom_2 ?_
    have h_1 : rg (I 64 a0) 0 5 := GX.rI hG 64 rfl
    refine pp_i (v := (I 64 a0)) (ty := .int) (C := RX2) (T := TX2) (N := 20) hx hb hts (tw_i inlX2) tyX2 tyX2_ok nmX2 hown hK hP hD hS hL_this hK_this (by decide) rfl 0 64 (by decide) (hts _ (tw_c tw_1374)) rfl (tyX2_ok 0 (by decide)) rfl rfl (Nat.le_of_ble_eq_true rfl) (ps_64 _ _ _ _ _) dX2_copyFrom_5 (fun I_2 H locs eI_2 hP hD hS => ?_)
    have hG := GX.wI hG 64 rfl eI_2 (rg_w h_1 (by decide)) (by decide)
    refine lv_aload_n hx hb dX2_copyFrom_8 rfl (lv_at hl 0 rfl) ?_
    refine lv_aload_n hx hb dX2_copyFrom_9 rfl (lv_at hl 1 rfl) ?_
    refine pg_f (v := .int (I_2 65 a0)) (C := RX2) (T := TX2) (N := 20) hx hb hts (tw_i inlX2) hown hK hP hL_a0 hK_a0 (by decide) rfl 1 (by decide) (hts _ (tw_c tw_222)) rfl dX2_copyFrom_10 ?_
    have h_3 : rg (I_2 65 a0) 0 40 := GX.rI hG 65 rfl
    refine pp_i (v := (I_2 65 a0)) (ty := .int) (C := RX2) (T := TX2) (N := 20) hx hb hts (tw_i inlX2) tyX2 tyX2_ok nmX2 hown hK hP hD hS hL_this hK_this (by decide) rfl 1 65 (by decide) (hts _ (tw_c tw_222)) rfl (tyX2_ok 1 (by decide)) rfl rfl (Nat.le_of_ble_eq_true rfl) (ps_65 _ _ _ _ _) dX2_copyFrom_13 (fun I_4 H locs eI_4 hP hD hS => ?_)
    have hG := GX.wI hG 65 rfl eI_4 (rg_w h_3 (by decide)) (by decide)
    refine lv_aload_n hx hb dX2_copyFrom_16 rfl (lv_at hl 0 rfl) ?_
    refine lv_aload_n hx hb dX2_copyFrom_17 rfl (lv_at hl 1 rfl) ?_
    refine pg_f (v := .int (I_4 66 a0)) (C := RX2) (T := TX2) (N := 20) hx hb hts (tw_i inlX2) hown hK hP hL_a0 hK_a0 (by decide) rfl 2 (by decide) (hts _ (tw_c tw_1069)) rfl dX2_copyFrom_18 ?_
    refine pp_i (v := (I_4 66 a0)) (ty := .int) (C := RX2) (T := TX2) (N := 20) hx hb hts (tw_i inlX2) tyX2 tyX2_ok nmX2 hown hK hP hD hS hL_this hK_this (by decide) rfl 2 66 (by decide) (hts _ (tw_c tw_1069)) rfl (tyX2_ok 2 (by decide)) rfl rfl (Nat.le_of_ble_eq_true rfl) (ps_66 _ _ _ _ _) dX2_copyFrom_21 (fun I_5 H locs eI_5 hP hD hS => ?_)
    have hG := GX.wI hG 66 rfl eI_5 (rg_w (rg_full _) (by decide)) (by decide)
    refine lv_aload_n hx hb dX2_copyFrom_24 rfl (lv_at hl 0 rfl) ?_
    refine lv_aload_n hx hb dX2_copyFrom_25 rfl (lv_at hl 1 rfl) ?_
    refine pg_f (v := .long (J 67 a0)) (C := RX2) (T := TX2) (N := 20) hx hb hts (tw_i inlX2) hown hK hP hL_a0 hK_a0 (by decide) rfl 3 (by decide) (hts _ (tw_c tw_558)) rfl dX2_copyFrom_26 ?_
    refine pp_l (v := (J 67 a0)) (C := RX2) (T := TX2) (N := 20) hx hb hts (tw_i inlX2) tyX2 tyX2_ok nmX2 hown hK hP hD hS hL_this hK_this (by decide) rfl 3 67 (by decide) (hts _ (tw_c tw_558)) rfl (tyX2_ok 3 (by decide)) (Nat.le_of_ble_eq_true rfl) (ps_67 _ _ _ _ _) dX2_copyFrom_29 (fun J_6 H locs eJ_6 hP hD hS => ?_)
    refine lv_aload_n hx hb dX2_copyFrom_32 rfl (lv_at hl 1 rfl) ?_
    obtain ⟨w_7, hR_w_7, hL_w_7, hK_w_7, hN_w_7, hT_w_7⟩ := sh_a hSH 68 (ci := 2) (kd := 14) (len := 600) rfl (by decide) hL_a0 hK_a0
    refine pg_f (v := .ref w_7) (C := RX2) (T := TX2) (N := 20) hx hb hts (tw_i inlX2) hown hK hP hL_a0 hK_a0 (by decide) rfl 4 (by decide) (hts _ (tw_c tw_82)) (pq_hv rfl hR_w_7) dX2_copyFrom_33 ?_
    refine lv_iconst (v := 0) hx hb dX2_copyFrom_36 (by decide) ?_
    refine lv_aload_n hx hb dX2_copyFrom_37 rfl (lv_at hl 0 rfl) ?_
    obtain ⟨w_8, hR_w_8, hL_w_8, hK_w_8, hN_w_8, hT_w_8⟩ := sh_a hSH 68 (ci := 2) (kd := 14) (len := 600) rfl (by decide) hL_this hK_this
    refine pg_f (v := .ref w_8) (C := RX2) (T := TX2) (N := 20) hx hb hts (tw_i inlX2) hown hK hP hL_this hK_this (by decide) rfl 4 (by decide) (hts _ (tw_c tw_82)) (pq_hv rfl hR_w_8) dX2_copyFrom_38 ?_
    refine lv_iconst (v := 0) hx hb dX2_copyFrom_41 (by decide) ?_
    refine lv_sipush (v := 600) hx hb dX2_copyFrom_42 (by decide) ?_
    refine pc_l hx hb (hml.trans hl.1.symm) hown (hts _ (tw_c tw_1375)) (hts _ (tw_c tw_1105)) (hts _ (tw_c tw_1106)) (hts _ (tw_c tw_1107)) hK hP hD hS hL_w_7 hK_w_7 hN_w_7 hL_w_8 hK_w_8 hN_w_8 (rg_pos (rg_k (0 : Int32) 0 rfl) (by decide)) (rg_pos (rg_k (600 : Int32) 600 rfl) (by decide)) (rg_cp (rg_k (0 : Int32) 0 rfl) (rg_k (600 : Int32) 600 rfl) (by decide)) (rg_cl (rg_k (600 : Int32) 600 rfl) (by decide)) (Nat.le_of_ble_eq_true rfl) (Nat.le_of_ble_eq_true rfl) dX2_copyFrom_45 (fun r_9 H locs er_9 hP hD hS => ?_)
    have hG := GX.wJ hG hT_w_8 er_9 (by decide)
    refine lv_aload_n hx hb dX2_copyFrom_48 rfl (lv_at hl 1 rfl) ?_
    obtain ⟨w_10, hR_w_10, hL_w_10, hK_w_10, hN_w_10, hT_w_10⟩ := sh_a hSH 69 (ci := 2) (kd := 13) (len := 40) rfl (by decide) hL_a0 hK_a0
    refine pg_f (v := .ref w_10) (C := RX2) (T := TX2) (N := 20) hx hb hts (tw_i inlX2) hown hK hP hL_a0 hK_a0 (by decide) rfl 5 (by decide) (hts _ (tw_c tw_83)) (pq_hv rfl hR_w_10) dX2_copyFrom_49 ?_
    refine lv_aload_n hx hb dX2_copyFrom_52 rfl (lv_at hl 0 rfl) ?_
    obtain ⟨w_11, hR_w_11, hL_w_11, hK_w_11, hN_w_11, hT_w_11⟩ := sh_a hSH 69 (ci := 2) (kd := 13) (len := 40) rfl (by decide) hL_this hK_this
    refine pg_f (v := .ref w_11) (C := RX2) (T := TX2) (N := 20) hx hb hts (tw_i inlX2) hown hK hP hL_this hK_this (by decide) rfl 5 (by decide) (hts _ (tw_c tw_83)) (pq_hv rfl hR_w_11) dX2_copyFrom_53 ?_
    refine pk_v (va_runSN (As := [.ref w_10, .ref w_11]) (rest := []) ⟨hx, hb, hml, hown, hts⟩ (s_X11_copy_69_69 l D t σ I_5 J_6 ri r_9 rq H.size tg hSH hG.1 w_10 w_11 hL_w_10 hK_w_10 hN_w_10 hT_w_10 hL_w_11 hK_w_11 hN_w_11 hT_w_11) ⟨va_cnB (host := "RingsUnder") 2 hts (tw_W tw_1102) rfl rfl rfl (nl_19 hN) (hts _ (tw_c tw_2)) cd_yX11_copy_2 ⟨Nat.le_of_ble_eq_true rfl, Nat.le_of_ble_eq_true rfl⟩, hts (.static yX11_copy) (tw_c tq_static_yX11_copy), trivial⟩ ⟨pq_blind, pq_pre hK hN hP hD⟩ rfl rfl hl.1 rfl (lv_room (Nat.le_of_ble_eq_true rfl)) dX2_copyFrom_56 ⟨Nat.le_of_ble_eq_true rfl, Nat.le_of_ble_eq_true rfl⟩) hD hS hA (fun σ1 μ1 H locs hw_13 hP hD hS => ?_)
    obtain ⟨ri_14, hu_15, hg_16, hp_18, hp_19⟩ := hw_13
    obtain ⟨hu_15a, hu_15b⟩ := Prod.mk.inj hu_15
    rw [hu_15a, hu_15b] at hP hD
    have hG := GX.tr hG hg_16 (by decide)
    refine lv_aload_n hx hb dX2_copyFrom_59 rfl (lv_at hl 1 rfl) ?_
    obtain ⟨w_20, hR_w_20, hL_w_20, hK_w_20, hN_w_20, hT_w_20⟩ := sh_a hSH 70 (ci := 2) (kd := 13) (len := 40) rfl (by decide) hL_a0 hK_a0
    refine pg_f (v := .ref w_20) (C := RX2) (T := TX2) (N := 20) hx hb hts (tw_i inlX2) hown hK hP hL_a0 hK_a0 (by decide) rfl 6 (by decide) (hts _ (tw_c tw_84)) (pq_hv rfl hR_w_20) dX2_copyFrom_60 ?_
    refine lv_aload_n hx hb dX2_copyFrom_63 rfl (lv_at hl 0 rfl) ?_
    obtain ⟨w_21, hR_w_21, hL_w_21, hK_w_21, hN_w_21, hT_w_21⟩ := sh_a hSH 70 (ci := 2) (kd := 13) (len := 40) rfl (by decide) hL_this hK_this
    refine pg_f (v := .ref w_21) (C := RX2) (T := TX2) (N := 20) hx hb hts (tw_i inlX2) hown hK hP hL_this hK_this (by decide) rfl 6 (by decide) (hts _ (tw_c tw_84)) (pq_hv rfl hR_w_21) dX2_copyFrom_64 ?_
    refine pk_v (va_runSN (As := [.ref w_20, .ref w_21]) (rest := []) ⟨hx, hb, hml, hown, hts⟩ (s_X11_copy_70_70 l D t σ I_5 J_6 ri_14 r_9 rq H.size tg hSH hG.1 w_20 w_21 hL_w_20 hK_w_20 hN_w_20 hT_w_20 hL_w_21 hK_w_21 hN_w_21 hT_w_21) ⟨va_cnB (host := "RingsUnder") 2 hts (tw_W tw_1102) rfl rfl rfl (nl_19 hN) (hts _ (tw_c tw_2)) cd_yX11_copy_2 ⟨Nat.le_of_ble_eq_true rfl, Nat.le_of_ble_eq_true rfl⟩, hts (.static yX11_copy) (tw_c tq_static_yX11_copy), trivial⟩ ⟨pq_blind, pq_pre hK hN hP hD⟩ rfl rfl hl.1 rfl (lv_room (Nat.le_of_ble_eq_true rfl)) dX2_copyFrom_67 ⟨Nat.le_of_ble_eq_true rfl, Nat.le_of_ble_eq_true rfl⟩) hD hS hA (fun σ1 μ1 H locs hw_23 hP hD hS => ?_)
    obtain ⟨ri_24, hu_25, hg_26, hp_28, hp_29⟩ := hw_23
    obtain ⟨hu_25a, hu_25b⟩ := Prod.mk.inj hu_25
    rw [hu_25a, hu_25b] at hP hD
    have hG := GX.tr hG hg_26 (by decide)
    refine lv_aload_n hx hb dX2_copyFrom_70 rfl (lv_at hl 1 rfl) ?_
    obtain ⟨w_30, hR_w_30, hL_w_30, hK_w_30, hN_w_30, hT_w_30⟩ := sh_a hSH 71 (ci := 2) (kd := 13) (len := 40) rfl (by decide) hL_a0 hK_a0
    refine pg_f (v := .ref w_30) (C := RX2) (T := TX2) (N := 20) hx hb hts (tw_i inlX2) hown hK hP hL_a0 hK_a0 (by decide) rfl 7 (by decide) (hts _ (tw_c tw_85)) (pq_hv rfl hR_w_30) dX2_copyFrom_71 ?_
    refine lv_aload_n hx hb dX2_copyFrom_74 rfl (lv_at hl 0 rfl) ?_
    obtain ⟨w_31, hR_w_31, hL_w_31, hK_w_31, hN_w_31, hT_w_31⟩ := sh_a hSH 71 (ci := 2) (kd := 13) (len := 40) rfl (by decide) hL_this hK_this
    refine pg_f (v := .ref w_31) (C := RX2) (T := TX2) (N := 20) hx hb hts (tw_i inlX2) hown hK hP hL_this hK_this (by decide) rfl 7 (by decide) (hts _ (tw_c tw_85)) (pq_hv rfl hR_w_31) dX2_copyFrom_75 ?_
    refine pk_v (va_runSN (As := [.ref w_30, .ref w_31]) (rest := []) ⟨hx, hb, hml, hown, hts⟩ (s_X11_copy_71_71 l D t σ I_5 J_6 ri_24 r_9 rq H.size tg hSH hG.1 w_30 w_31 hL_w_30 hK_w_30 hN_w_30 hT_w_30 hL_w_31 hK_w_31 hN_w_31 hT_w_31) ⟨va_cnB (host := "RingsUnder") 2 hts (tw_W tw_1102) rfl rfl rfl (nl_19 hN) (hts _ (tw_c tw_2)) cd_yX11_copy_2 ⟨Nat.le_of_ble_eq_true rfl, Nat.le_of_ble_eq_true rfl⟩, hts (.static yX11_copy) (tw_c tq_static_yX11_copy), trivial⟩ ⟨pq_blind, pq_pre hK hN hP hD⟩ rfl rfl hl.1 rfl (lv_room (Nat.le_of_ble_eq_true rfl)) dX2_copyFrom_78 ⟨Nat.le_of_ble_eq_true rfl, Nat.le_of_ble_eq_true rfl⟩) hD hS hA (fun σ1 μ1 H locs hw_33 hP hD hS => ?_)
    obtain ⟨ri_34, hu_35, hg_36, hp_38, hp_39⟩ := hw_33
    obtain ⟨hu_35a, hu_35b⟩ := Prod.mk.inj hu_35
    rw [hu_35a, hu_35b] at hP hD
    have hG := GX.tr hG hg_36 (by decide)
    refine lv_aload_n hx hb dX2_copyFrom_81 rfl (lv_at hl 1 rfl) ?_
    obtain ⟨w_40, hR_w_40, hL_w_40, hK_w_40, hN_w_40, hT_w_40⟩ := sh_a hSH 72 (ci := 2) (kd := 13) (len := 40) rfl (by decide) hL_a0 hK_a0
    refine pg_f (v := .ref w_40) (C := RX2) (T := TX2) (N := 20) hx hb hts (tw_i inlX2) hown hK hP hL_a0 hK_a0 (by decide) rfl 8 (by decide) (hts _ (tw_c tw_86)) (pq_hv rfl hR_w_40) dX2_copyFrom_82 ?_
    refine lv_aload_n hx hb dX2_copyFrom_85 rfl (lv_at hl 0 rfl) ?_
    obtain ⟨w_41, hR_w_41, hL_w_41, hK_w_41, hN_w_41, hT_w_41⟩ := sh_a hSH 72 (ci := 2) (kd := 13) (len := 40) rfl (by decide) hL_this hK_this
    refine pg_f (v := .ref w_41) (C := RX2) (T := TX2) (N := 20) hx hb hts (tw_i inlX2) hown hK hP hL_this hK_this (by decide) rfl 8 (by decide) (hts _ (tw_c tw_86)) (pq_hv rfl hR_w_41) dX2_copyFrom_86 ?_
    refine pk_v (va_runSN (As := [.ref w_40, .ref w_41]) (rest := []) ⟨hx, hb, hml, hown, hts⟩ (s_X11_copy_72_72 l D t σ I_5 J_6 ri_34 r_9 rq H.size tg hSH hG.1 w_40 w_41 hL_w_40 hK_w_40 hN_w_40 hT_w_40 hL_w_41 hK_w_41 hN_w_41 hT_w_41) ⟨va_cnB (host := "RingsUnder") 2 hts (tw_W tw_1102) rfl rfl rfl (nl_19 hN) (hts _ (tw_c tw_2)) cd_yX11_copy_2 ⟨Nat.le_of_ble_eq_true rfl, Nat.le_of_ble_eq_true rfl⟩, hts (.static yX11_copy) (tw_c tq_static_yX11_copy), trivial⟩ ⟨pq_blind, pq_pre hK hN hP hD⟩ rfl rfl hl.1 rfl (lv_room (Nat.le_of_ble_eq_true rfl)) dX2_copyFrom_89 ⟨Nat.le_of_ble_eq_true rfl, Nat.le_of_ble_eq_true rfl⟩) hD hS hA (fun σ1 μ1 H locs hw_43 hP hD hS => ?_)
    obtain ⟨ri_44, hu_45, hg_46, hp_48, hp_49⟩ := hw_43
    obtain ⟨hu_45a, hu_45b⟩ := Prod.mk.inj hu_45
    rw [hu_45a, hu_45b] at hP hD
    have hG := GX.tr hG hg_46 (by decide)
    refine lv_aload_n hx hb dX2_copyFrom_92 rfl (lv_at hl 1 rfl) ?_
    obtain ⟨w_50, hR_w_50, hL_w_50, hK_w_50, hN_w_50, hT_w_50⟩ := sh_a hSH 73 (ci := 2) (kd := 13) (len := 40) rfl (by decide) hL_a0 hK_a0
    refine pg_f (v := .ref w_50) (C := RX2) (T := TX2) (N := 20) hx hb hts (tw_i inlX2) hown hK hP hL_a0 hK_a0 (by decide) rfl 9 (by decide) (hts _ (tw_c tw_87)) (pq_hv rfl hR_w_50) dX2_copyFrom_93 ?_
    refine lv_aload_n hx hb dX2_copyFrom_96 rfl (lv_at hl 0 rfl) ?_
    obtain ⟨w_51, hR_w_51, hL_w_51, hK_w_51, hN_w_51, hT_w_51⟩ := sh_a hSH 73 (ci := 2) (kd := 13) (len := 40) rfl (by decide) hL_this hK_this
    refine pg_f (v := .ref w_51) (C := RX2) (T := TX2) (N := 20) hx hb hts (tw_i inlX2) hown hK hP hL_this hK_this (by decide) rfl 9 (by decide) (hts _ (tw_c tw_87)) (pq_hv rfl hR_w_51) dX2_copyFrom_97 ?_
    refine pk_v (va_runSN (As := [.ref w_50, .ref w_51]) (rest := []) ⟨hx, hb, hml, hown, hts⟩ (s_X11_copy_73_73 l D t σ I_5 J_6 ri_44 r_9 rq H.size tg hSH hG.1 w_50 w_51 hL_w_50 hK_w_50 hN_w_50 hT_w_50 hL_w_51 hK_w_51 hN_w_51 hT_w_51) ⟨va_cnB (host := "RingsUnder") 2 hts (tw_W tw_1102) rfl rfl rfl (nl_19 hN) (hts _ (tw_c tw_2)) cd_yX11_copy_2 ⟨Nat.le_of_ble_eq_true rfl, Nat.le_of_ble_eq_true rfl⟩, hts (.static yX11_copy) (tw_c tq_static_yX11_copy), trivial⟩ ⟨pq_blind, pq_pre hK hN hP hD⟩ rfl rfl hl.1 rfl (lv_room (Nat.le_of_ble_eq_true rfl)) dX2_copyFrom_100 ⟨Nat.le_of_ble_eq_true rfl, Nat.le_of_ble_eq_true rfl⟩) hD hS hA (fun σ1 μ1 H locs hw_53 hP hD hS => ?_)
    obtain ⟨ri_54, hu_55, hg_56, hp_58, hp_59⟩ := hw_53
    obtain ⟨hu_55a, hu_55b⟩ := Prod.mk.inj hu_55
    rw [hu_55a, hu_55b] at hP hD
    have hG := GX.tr hG hg_56 (by decide)
    refine lv_aload_n hx hb dX2_copyFrom_103 rfl (lv_at hl 1 rfl) ?_
    obtain ⟨w_60, hR_w_60, hL_w_60, hK_w_60, hN_w_60, hT_w_60⟩ := sh_a hSH 74 (ci := 2) (kd := 13) (len := 40) rfl (by decide) hL_a0 hK_a0
    refine pg_f (v := .ref w_60) (C := RX2) (T := TX2) (N := 20) hx hb hts (tw_i inlX2) hown hK hP hL_a0 hK_a0 (by decide) rfl 10 (by decide) (hts _ (tw_c tw_88)) (pq_hv rfl hR_w_60) dX2_copyFrom_104 ?_
    refine lv_aload_n hx hb dX2_copyFrom_107 rfl (lv_at hl 0 rfl) ?_
    obtain ⟨w_61, hR_w_61, hL_w_61, hK_w_61, hN_w_61, hT_w_61⟩ := sh_a hSH 74 (ci := 2) (kd := 13) (len := 40) rfl (by decide) hL_this hK_this
    refine pg_f (v := .ref w_61) (C := RX2) (T := TX2) (N := 20) hx hb hts (tw_i inlX2) hown hK hP hL_this hK_this (by decide) rfl 10 (by decide) (hts _ (tw_c tw_88)) (pq_hv rfl hR_w_61) dX2_copyFrom_108 ?_
    refine pk_v (va_runSN (As := [.ref w_60, .ref w_61]) (rest := []) ⟨hx, hb, hml, hown, hts⟩ (s_X11_copy_74_74 l D t σ I_5 J_6 ri_54 r_9 rq H.size tg hSH hG.1 w_60 w_61 hL_w_60 hK_w_60 hN_w_60 hT_w_60 hL_w_61 hK_w_61 hN_w_61 hT_w_61) ⟨va_cnB (host := "RingsUnder") 2 hts (tw_W tw_1102) rfl rfl rfl (nl_19 hN) (hts _ (tw_c tw_2)) cd_yX11_copy_2 ⟨Nat.le_of_ble_eq_true rfl, Nat.le_of_ble_eq_true rfl⟩, hts (.static yX11_copy) (tw_c tq_static_yX11_copy), trivial⟩ ⟨pq_blind, pq_pre hK hN hP hD⟩ rfl rfl hl.1 rfl (lv_room (Nat.le_of_ble_eq_true rfl)) dX2_copyFrom_111 ⟨Nat.le_of_ble_eq_true rfl, Nat.le_of_ble_eq_true rfl⟩) hD hS hA (fun σ1 μ1 H locs hw_63 hP hD hS => ?_)
    obtain ⟨ri_64, hu_65, hg_66, hp_68, hp_69⟩ := hw_63
    obtain ⟨hu_65a, hu_65b⟩ := Prod.mk.inj hu_65
    rw [hu_65a, hu_65b] at hP hD
    have hG := GX.tr hG hg_66 (by decide)
    refine lv_aload_n hx hb dX2_copyFrom_114 rfl (lv_at hl 1 rfl) ?_
    obtain ⟨w_70, hR_w_70, hL_w_70, hK_w_70, hN_w_70, hT_w_70⟩ := sh_a hSH 75 (ci := 2) (kd := 13) (len := 40) rfl (by decide) hL_a0 hK_a0
    refine pg_f (v := .ref w_70) (C := RX2) (T := TX2) (N := 20) hx hb hts (tw_i inlX2) hown hK hP hL_a0 hK_a0 (by decide) rfl 11 (by decide) (hts _ (tw_c tw_89)) (pq_hv rfl hR_w_70) dX2_copyFrom_115 ?_
    refine lv_aload_n hx hb dX2_copyFrom_118 rfl (lv_at hl 0 rfl) ?_
    obtain ⟨w_71, hR_w_71, hL_w_71, hK_w_71, hN_w_71, hT_w_71⟩ := sh_a hSH 75 (ci := 2) (kd := 13) (len := 40) rfl (by decide) hL_this hK_this
    refine pg_f (v := .ref w_71) (C := RX2) (T := TX2) (N := 20) hx hb hts (tw_i inlX2) hown hK hP hL_this hK_this (by decide) rfl 11 (by decide) (hts _ (tw_c tw_89)) (pq_hv rfl hR_w_71) dX2_copyFrom_119 ?_
    refine pk_v (va_runSN (As := [.ref w_70, .ref w_71]) (rest := []) ⟨hx, hb, hml, hown, hts⟩ (s_X11_copy_75_75 l D t σ I_5 J_6 ri_64 r_9 rq H.size tg hSH hG.1 w_70 w_71 hL_w_70 hK_w_70 hN_w_70 hT_w_70 hL_w_71 hK_w_71 hN_w_71 hT_w_71) ⟨va_cnB (host := "RingsUnder") 2 hts (tw_W tw_1102) rfl rfl rfl (nl_19 hN) (hts _ (tw_c tw_2)) cd_yX11_copy_2 ⟨Nat.le_of_ble_eq_true rfl, Nat.le_of_ble_eq_true rfl⟩, hts (.static yX11_copy) (tw_c tq_static_yX11_copy), trivial⟩ ⟨pq_blind, pq_pre hK hN hP hD⟩ rfl rfl hl.1 rfl (lv_room (Nat.le_of_ble_eq_true rfl)) dX2_copyFrom_122 ⟨Nat.le_of_ble_eq_true rfl, Nat.le_of_ble_eq_true rfl⟩) hD hS hA (fun σ1 μ1 H locs hw_73 hP hD hS => ?_)
    obtain ⟨ri_74, hu_75, hg_76, hp_78, hp_79⟩ := hw_73
    obtain ⟨hu_75a, hu_75b⟩ := Prod.mk.inj hu_75
    rw [hu_75a, hu_75b] at hP hD
    have hG := GX.tr hG hg_76 (by decide)
    refine lv_aload_n hx hb dX2_copyFrom_125 rfl (lv_at hl 1 rfl) ?_
    obtain ⟨w_80, hR_w_80, hL_w_80, hK_w_80, hN_w_80, hT_w_80⟩ := sh_a hSH 76 (ci := 2) (kd := 13) (len := 40) rfl (by decide) hL_a0 hK_a0
    refine pg_f (v := .ref w_80) (C := RX2) (T := TX2) (N := 20) hx hb hts (tw_i inlX2) hown hK hP hL_a0 hK_a0 (by decide) rfl 12 (by decide) (hts _ (tw_c tw_90)) (pq_hv rfl hR_w_80) dX2_copyFrom_126 ?_
    refine lv_aload_n hx hb dX2_copyFrom_129 rfl (lv_at hl 0 rfl) ?_
    obtain ⟨w_81, hR_w_81, hL_w_81, hK_w_81, hN_w_81, hT_w_81⟩ := sh_a hSH 76 (ci := 2) (kd := 13) (len := 40) rfl (by decide) hL_this hK_this
    refine pg_f (v := .ref w_81) (C := RX2) (T := TX2) (N := 20) hx hb hts (tw_i inlX2) hown hK hP hL_this hK_this (by decide) rfl 12 (by decide) (hts _ (tw_c tw_90)) (pq_hv rfl hR_w_81) dX2_copyFrom_130 ?_
    refine pk_v (va_runSN (As := [.ref w_80, .ref w_81]) (rest := []) ⟨hx, hb, hml, hown, hts⟩ (s_X11_copy_76_76 l D t σ I_5 J_6 ri_74 r_9 rq H.size tg hSH hG.1 w_80 w_81 hL_w_80 hK_w_80 hN_w_80 hT_w_80 hL_w_81 hK_w_81 hN_w_81 hT_w_81) ⟨va_cnB (host := "RingsUnder") 2 hts (tw_W tw_1102) rfl rfl rfl (nl_19 hN) (hts _ (tw_c tw_2)) cd_yX11_copy_2 ⟨Nat.le_of_ble_eq_true rfl, Nat.le_of_ble_eq_true rfl⟩, hts (.static yX11_copy) (tw_c tq_static_yX11_copy), trivial⟩ ⟨pq_blind, pq_pre hK hN hP hD⟩ rfl rfl hl.1 rfl (lv_room (Nat.le_of_ble_eq_true rfl)) dX2_copyFrom_133 ⟨Nat.le_of_ble_eq_true rfl, Nat.le_of_ble_eq_true rfl⟩) hD hS hA (fun σ1 μ1 H locs hw_83 hP hD hS => ?_)
    obtain ⟨ri_84, hu_85, hg_86, hp_88, hp_89⟩ := hw_83
    obtain ⟨hu_85a, hu_85b⟩ := Prod.mk.inj hu_85
    rw [hu_85a, hu_85b] at hP hD
    have hG := GX.tr hG hg_86 (by decide)
    refine lv_aload_n hx hb dX2_copyFrom_136 rfl (lv_at hl 1 rfl) ?_
    obtain ⟨w_90, hR_w_90, hL_w_90, hK_w_90, hN_w_90, hT_w_90⟩ := sh_a hSH 77 (ci := 2) (kd := 13) (len := 40) rfl (by decide) hL_a0 hK_a0
    refine pg_f (v := .ref w_90) (C := RX2) (T := TX2) (N := 20) hx hb hts (tw_i inlX2) hown hK hP hL_a0 hK_a0 (by decide) rfl 13 (by decide) (hts _ (tw_c tw_91)) (pq_hv rfl hR_w_90) dX2_copyFrom_137 ?_
    refine lv_aload_n hx hb dX2_copyFrom_140 rfl (lv_at hl 0 rfl) ?_
    obtain ⟨w_91, hR_w_91, hL_w_91, hK_w_91, hN_w_91, hT_w_91⟩ := sh_a hSH 77 (ci := 2) (kd := 13) (len := 40) rfl (by decide) hL_this hK_this
    refine pg_f (v := .ref w_91) (C := RX2) (T := TX2) (N := 20) hx hb hts (tw_i inlX2) hown hK hP hL_this hK_this (by decide) rfl 13 (by decide) (hts _ (tw_c tw_91)) (pq_hv rfl hR_w_91) dX2_copyFrom_141 ?_
    refine pk_v (va_runSN (As := [.ref w_90, .ref w_91]) (rest := []) ⟨hx, hb, hml, hown, hts⟩ (s_X11_copy_77_77 l D t σ I_5 J_6 ri_84 r_9 rq H.size tg hSH hG.1 w_90 w_91 hL_w_90 hK_w_90 hN_w_90 hT_w_90 hL_w_91 hK_w_91 hN_w_91 hT_w_91) ⟨va_cnB (host := "RingsUnder") 2 hts (tw_W tw_1102) rfl rfl rfl (nl_19 hN) (hts _ (tw_c tw_2)) cd_yX11_copy_2 ⟨Nat.le_of_ble_eq_true rfl, Nat.le_of_ble_eq_true rfl⟩, hts (.static yX11_copy) (tw_c tq_static_yX11_copy), trivial⟩ ⟨pq_blind, pq_pre hK hN hP hD⟩ rfl rfl hl.1 rfl (lv_room (Nat.le_of_ble_eq_true rfl)) dX2_copyFrom_144 ⟨Nat.le_of_ble_eq_true rfl, Nat.le_of_ble_eq_true rfl⟩) hD hS hA (fun σ1 μ1 H locs hw_93 hP hD hS => ?_)
    obtain ⟨ri_94, hu_95, hg_96, hp_98, hp_99⟩ := hw_93
    obtain ⟨hu_95a, hu_95b⟩ := Prod.mk.inj hu_95
    rw [hu_95a, hu_95b] at hP hD
    have hG := GX.tr hG hg_96 (by decide)
    refine lv_aload_n hx hb dX2_copyFrom_147 rfl (lv_at hl 0 rfl) ?_
    refine pg_f (v := .ref this_wells) (C := RX2) (T := TX2) (N := 20) hx hb hts (tw_i inlX2) hown hK hP hL_this hK_this (by decide) rfl 14 (by decide) (hts _ (tw_c tw_95)) (pq_hv rfl hR_this_wells) dX2_copyFrom_148 ?_
    refine lv_aload_n hx hb dX2_copyFrom_151 rfl (lv_at hl 1 rfl) ?_
    refine pg_f (v := .ref a0_wells) (C := RX2) (T := TX2) (N := 20) hx hb hts (tw_i inlX2) hown hK hP hL_a0 hK_a0 (by decide) rfl 14 (by decide) (hts _ (tw_c tw_95)) (pq_hv rfl hR_a0_wells) dX2_copyFrom_152 ?_
    refine pk_v (va_runV (As := [.ref a0_wells]) (rest := []) ⟨hx, hb, hml, hown, hts⟩ (s_X9_copyFrom_w l D t σ I_5 J_6 ri_94 r_9 rq H.size tg hSH hG.1 this_wells a0_wells hL_this_wells hK_this_wells hL_a0_wells hK_a0_wells this_gathers hR_this_gathers hL_this_gathers hK_this_gathers hN_this_gathers hT_this_gathers a0_gathers hR_a0_gathers hL_a0_gathers hK_a0_gathers hN_a0_gathers hT_a0_gathers) (cwV 1 hts (tw_V tw_1376 tw_1377 tw_1378 tw_94 tw_1379) rfl rfl rfl cv_yX9_copyFrom_1 ⟨Nat.le_of_ble_eq_true rfl, Nat.le_of_ble_eq_true rfl⟩) ⟨pq_blind, pq_recv hK hP hL_this_wells hK_this_wells (by decide) rfl, pq_pre hK hN hP hD⟩ rfl rfl hl.1 rfl (lv_room (Nat.le_of_ble_eq_true rfl)) dX2_copyFrom_155 ⟨Nat.le_of_ble_eq_true rfl, Nat.le_of_ble_eq_true rfl⟩) hD hS hA (fun σ1 μ1 H locs hw_101 hP hD hS => ?_)
    obtain ⟨ri_102, hu_103, hg_104, hp_106⟩ := hw_101
    obtain ⟨hu_103a, hu_103b⟩ := Prod.mk.inj hu_103
    rw [hu_103a, hu_103b] at hP hD
    have hG := GX.tr hG hg_104 (by decide)
    refine lv_aload_n hx hb dX2_copyFrom_158 rfl (lv_at hl 1 rfl) ?_
    obtain ⟨w_107, hR_w_107, hL_w_107, hK_w_107, hN_w_107, hT_w_107⟩ := sh_a hSH 79 (ci := 2) (kd := 13) (len := 40) rfl (by decide) hL_a0 hK_a0
    refine pg_f (v := .ref w_107) (C := RX2) (T := TX2) (N := 20) hx hb hts (tw_i inlX2) hown hK hP hL_a0 hK_a0 (by decide) rfl 15 (by decide) (hts _ (tw_c tw_96)) (pq_hv rfl hR_w_107) dX2_copyFrom_159 ?_
    refine lv_aload_n hx hb dX2_copyFrom_162 rfl (lv_at hl 0 rfl) ?_
    obtain ⟨w_108, hR_w_108, hL_w_108, hK_w_108, hN_w_108, hT_w_108⟩ := sh_a hSH 79 (ci := 2) (kd := 13) (len := 40) rfl (by decide) hL_this hK_this
    refine pg_f (v := .ref w_108) (C := RX2) (T := TX2) (N := 20) hx hb hts (tw_i inlX2) hown hK hP hL_this hK_this (by decide) rfl 15 (by decide) (hts _ (tw_c tw_96)) (pq_hv rfl hR_w_108) dX2_copyFrom_163 ?_
    refine pk_v (va_runSN (As := [.ref w_107, .ref w_108]) (rest := []) ⟨hx, hb, hml, hown, hts⟩ (s_X11_copy_79_79 l D t σ I_5 J_6 ri_102 r_9 rq H.size tg hSH hG.1 w_107 w_108 hL_w_107 hK_w_107 hN_w_107 hT_w_107 hL_w_108 hK_w_108 hN_w_108 hT_w_108) ⟨va_cnB (host := "RingsUnder") 2 hts (tw_W tw_1102) rfl rfl rfl (nl_19 hN) (hts _ (tw_c tw_2)) cd_yX11_copy_2 ⟨Nat.le_of_ble_eq_true rfl, Nat.le_of_ble_eq_true rfl⟩, hts (.static yX11_copy) (tw_c tq_static_yX11_copy), trivial⟩ ⟨pq_blind, pq_pre hK hN hP hD⟩ rfl rfl hl.1 rfl (lv_room (Nat.le_of_ble_eq_true rfl)) dX2_copyFrom_166 ⟨Nat.le_of_ble_eq_true rfl, Nat.le_of_ble_eq_true rfl⟩) hD hS hA (fun σ1 μ1 H locs hw_110 hP hD hS => ?_)
    obtain ⟨ri_111, hu_112, hg_113, hp_115, hp_116⟩ := hw_110
    obtain ⟨hu_112a, hu_112b⟩ := Prod.mk.inj hu_112
    rw [hu_112a, hu_112b] at hP hD
    have hG := GX.tr hG hg_113 (by decide)
    refine lv_aload_n hx hb dX2_copyFrom_169 rfl (lv_at hl 1 rfl) ?_
    obtain ⟨w_117, hR_w_117, hL_w_117, hK_w_117, hN_w_117, hT_w_117⟩ := sh_a hSH 80 (ci := 2) (kd := 13) (len := 5) rfl (by decide) hL_a0 hK_a0
    refine pg_f (v := .ref w_117) (C := RX2) (T := TX2) (N := 20) hx hb hts (tw_i inlX2) hown hK hP hL_a0 hK_a0 (by decide) rfl 16 (by decide) (hts _ (tw_c tw_97)) (pq_hv rfl hR_w_117) dX2_copyFrom_170 ?_
    refine lv_aload_n hx hb dX2_copyFrom_173 rfl (lv_at hl 0 rfl) ?_
    obtain ⟨w_118, hR_w_118, hL_w_118, hK_w_118, hN_w_118, hT_w_118⟩ := sh_a hSH 80 (ci := 2) (kd := 13) (len := 5) rfl (by decide) hL_this hK_this
    refine pg_f (v := .ref w_118) (C := RX2) (T := TX2) (N := 20) hx hb hts (tw_i inlX2) hown hK hP hL_this hK_this (by decide) rfl 16 (by decide) (hts _ (tw_c tw_97)) (pq_hv rfl hR_w_118) dX2_copyFrom_174 ?_
    refine pk_v (va_runSN (As := [.ref w_117, .ref w_118]) (rest := []) ⟨hx, hb, hml, hown, hts⟩ (s_X11_copy_80_80 l D t σ I_5 J_6 ri_111 r_9 rq H.size tg hSH hG.1 w_117 w_118 hL_w_117 hK_w_117 hN_w_117 hT_w_117 hL_w_118 hK_w_118 hN_w_118 hT_w_118) ⟨va_cnB (host := "RingsUnder") 2 hts (tw_W tw_1102) rfl rfl rfl (nl_19 hN) (hts _ (tw_c tw_2)) cd_yX11_copy_2 ⟨Nat.le_of_ble_eq_true rfl, Nat.le_of_ble_eq_true rfl⟩, hts (.static yX11_copy) (tw_c tq_static_yX11_copy), trivial⟩ ⟨pq_blind, pq_pre hK hN hP hD⟩ rfl rfl hl.1 rfl (lv_room (Nat.le_of_ble_eq_true rfl)) dX2_copyFrom_177 ⟨Nat.le_of_ble_eq_true rfl, Nat.le_of_ble_eq_true rfl⟩) hD hS hA (fun σ1 μ1 H locs hw_120 hP hD hS => ?_)
    obtain ⟨ri_121, hu_122, hg_123, hp_125, hp_126⟩ := hw_120
    obtain ⟨hu_122a, hu_122b⟩ := Prod.mk.inj hu_122
    rw [hu_122a, hu_122b] at hP hD
    have hG := GX.tr hG hg_123 (by decide)
    subst hQ
    exact W.vret hx hb hr (fun t1 ht hW => ⟨⟨(σ, I_5, J_6, ri_121, r_9, rq), rfl, ⟨I_5, J_6, ri_121, r_9, rfl, hG, (by rw [(pq_uO (f := 64) eI_5 (by decide)), (pq_uO (f := 64) eI_4 (by decide)), (pq_uF eI_2)]), (by rw [(pq_uO (f := 65) eI_5 (by decide)), (pq_uF eI_4), (pq_uO (f := 65) eI_2 (by decide))]), (rcp_r (rcp_r (rcp_l (rid_t (rid_t (rid_t (rid_t (rid_t (rid_t (rid_t (rid_t (rid_c hg_16 (by decide)) (rid_c hg_26 (by decide))) (rid_c hg_36 (by decide))) (rid_c hg_46 (by decide))) (rid_c hg_56 (by decide))) (rid_c hg_66 (by decide))) (rid_c hg_76 (by decide))) (rid_c hg_86 (by decide))) (rid_c hg_96 (by decide))) hT_a0_gathers hp_106) hT_this_gathers (rid_c hg_113 (by decide))) hT_this_gathers (rid_c hg_123 (by decide)))⟩, by rw [ht]; exact hP, va_K.moved hW.alike hK, hD⟩, hS.F ht⟩) hS.2.2 dX2_copyFrom_180
  exact go _ _ _ hP hD hS hl

set_option maxHeartbeats 4000000 in
set_option maxRecDepth 100000 in
theorem s_X0_copyFrom_w (l : Launch) (D : va_G) (t : pq_T) (σ : pq_S) (I : Nat → Nat → Int32) (J : Nat → Nat → Int64) (ri : Nat → Nat → Int32) (rj : Nat → Nat → Int64) (rq : Nat → Nat → Option Nat) (sz : Nat) (tg : Nat → Nat) (hSH : SH σ tg) (hG0 : GS tg σ I ri rq) (this : Nat) (a0 : Nat) (hL_this : this ∈ σ.1) (hK_this : σ.2.1 this = 0) (hL_a0 : a0 ∈ σ.1) (hK_a0 : σ.2.1 a0 = 0) : MetV l yX0_copyFrom (wa yX0_copyFrom cX0_copyFrom 2 none) ({ frames := 2, cells := 0, slots := 0, locals := 81 }) [.ref this, .ref a0] D t σ (I, J, ri, rj, rq) sz 0 0 (fun (u : pq_S × pq_M) => ∃ I' : Nat → Nat → Int32, ∃ ri' : Nat → Nat → Int32, u = (σ, I', J, ri', rj, rq) ∧ GX [0, 1005, 10] tg σ I ri rj I' ri' rj rq ∧ (I' 10 = va_up (I 10) this (I 10 a0)) ∧ (I' 0 = va_up (I 0) this (I 0 a0))) := by
  refine Met.ofW (cc := cX0_copyFrom) (maxL := 2) (ret := none) (by decide) rfl ?_
  intro p e s m args below meth c s₁ B hml hv
  obtain ⟨rfl, hsz, hP, hK, hD0, hN⟩ := hv
  have hx := B.exec
  have hb := B.bytes
  have hr := B.returns
  have hts := atoms_spec (ws := (wa yX0_copyFrom cX0_copyFrom 2 none)) B.pre
  have hown : s.vm.findClass RX0 = some m.cls := findClass_of_methodNamed B.named
  have hlocks := B.notSynchronized
  subst hsz
  have hD : va_D (pq_B t σ (I, J, ri, rj, rq) s.heap.size) (pq_P t σ (I, J, ri, rj, rq)) := hD0.self
  generalize hAe : pq_B t σ (I, J, ri, rj, rq) s.heap.size = A at hD ⊢
  have hA : ∀ q : Nat, s.heap.size ≤ q → A q := fun q h => by rw [← hAe]; exact Or.inr h
  have hS : va_S A s.heap s.heap [] := va_S.rf
  have hG : GX [0, 1005, 10] tg σ I ri rj I ri rj rq := ⟨hG0, fun _ _ _ => rfl, fun _ _ _ _ _ => rfl, fun _ _ _ _ _ => rfl⟩
  have hl := lv_entry ([.ref this, .ref a0]) (n := 2) (Nat.le_of_ble_eq_true rfl)
  rw [lg_entry_eq]
  generalize (lg_sl ([.ref this, .ref a0]) ++ List.replicate (2 - (lg_sl ([.ref this, .ref a0])).length) Slot.unset).toArray = ls at hl ⊢
  have hl : lv_has ls 2 [(0, .ref this), (1, .ref a0)] := hl
  refine q_gen (fun Q hQ => ?_)
  have go : ∀ (H : Heap) (locs : List Loc) (ls : Array Slot), va_P D vwCl (pq_P t σ (I, J, ri, rj, rq)) H → va_D A (pq_P t σ (I, J, ri, rj, rq)) → va_S A s.heap H locs → lv_has ls 2 [(0, .ref this), (1, .ref a0)] → W p l e ({ frames := 2, cells := 0, slots := 0, locals := 81 } : Room) s m (List.toArray ([.ref this, .ref a0] : List Value)) below meth c H locs 0 0 Q (F0 m 0 ls []) := by
    intro H locs ls hP hD hS hl
    refine lv_aload_n hx hb dX0_copyFrom_0 rfl (lv_at hl 0 rfl) ?_
    refine lv_aload_n hx hb dX0_copyFrom_1 rfl (lv_at hl 1 rfl) ?_
    refine pg_f (v := .int (I 0 a0)) (C := RX0) (T := TX0) (N := 16) hx hb hts (tw_i inlX0) hown hK hP hL_a0 hK_a0 (by decide) rfl 0 (by decide) (hts _ (tw_c tw_395)) rfl dX0_copyFrom_2 ?_
    have h_1 : rg (I 0 a0) 0 40 := GX.rI hG 0 rfl
    refine pp_i (v := (I 0 a0)) (ty := .int) (C := RX0) (T := TX0) (N := 16) hx hb hts (tw_i inlX0) tyX0 tyX0_ok nmX0 hown hK hP hD hS hL_this hK_this (by decide) rfl 0 0 (by decide) (hts _ (tw_c tw_395)) rfl (tyX0_ok 0 (by decide)) rfl rfl (Nat.le_of_ble_eq_true rfl) (ps_0 _ _ _ _ _) dX0_copyFrom_5 (fun I_2 H locs eI_2 hP hD hS => ?_)
    have hG := GX.wI hG 0 rfl eI_2 (rg_w h_1 (by decide)) (by decide)
    refine lv_aload_n hx hb dX0_copyFrom_8 rfl (lv_at hl 1 rfl) ?_
    obtain ⟨w_3, hR_w_3, hL_w_3, hK_w_3, hN_w_3, hT_w_3⟩ := sh_a hSH 1 (ci := 0) (kd := 13) (len := 40) rfl (by decide) hL_a0 hK_a0
    refine pg_f (v := .ref w_3) (C := RX0) (T := TX0) (N := 16) hx hb hts (tw_i inlX0) hown hK hP hL_a0 hK_a0 (by decide) rfl 1 (by decide) (hts _ (tw_c tw_110)) (pq_hv rfl hR_w_3) dX0_copyFrom_9 ?_
    refine lv_aload_n hx hb dX0_copyFrom_12 rfl (lv_at hl 0 rfl) ?_
    obtain ⟨w_4, hR_w_4, hL_w_4, hK_w_4, hN_w_4, hT_w_4⟩ := sh_a hSH 1 (ci := 0) (kd := 13) (len := 40) rfl (by decide) hL_this hK_this
    refine pg_f (v := .ref w_4) (C := RX0) (T := TX0) (N := 16) hx hb hts (tw_i inlX0) hown hK hP hL_this hK_this (by decide) rfl 1 (by decide) (hts _ (tw_c tw_110)) (pq_hv rfl hR_w_4) dX0_copyFrom_13 ?_
    refine pk_v (va_runSN (As := [.ref w_3, .ref w_4]) (rest := []) ⟨hx, hb, hml, hown, hts⟩ (s_X11_copy_1_1 l D t σ I_2 J ri rj rq H.size tg hSH hG.1 w_3 w_4 hL_w_3 hK_w_3 hN_w_3 hT_w_3 hL_w_4 hK_w_4 hN_w_4 hT_w_4) ⟨va_cnB (host := "RingsUnder") 2 hts (tw_W tw_1102) rfl rfl rfl (nl_15 hN) (hts _ (tw_c tw_2)) cd_yX11_copy_2 ⟨Nat.le_of_ble_eq_true rfl, Nat.le_of_ble_eq_true rfl⟩, hts (.static yX11_copy) (tw_c tq_static_yX11_copy), trivial⟩ ⟨pq_blind, pq_pre hK hN hP hD⟩ rfl rfl hl.1 rfl (lv_room (Nat.le_of_ble_eq_true rfl)) dX0_copyFrom_16 ⟨Nat.le_of_ble_eq_true rfl, Nat.le_of_ble_eq_true rfl⟩) hD hS hA (fun σ1 μ1 H locs hw_6 hP hD hS => ?_)
    obtain ⟨ri_7, hu_8, hg_9, hp_11, hp_12⟩ := hw_6
    obtain ⟨hu_8a, hu_8b⟩ := Prod.mk.inj hu_8
    rw [hu_8a, hu_8b] at hP hD
    have hG := GX.tr hG hg_9 (by decide)
    refine lv_aload_n hx hb dX0_copyFrom_19 rfl (lv_at hl 1 rfl) ?_
    obtain ⟨w_13, hR_w_13, hL_w_13, hK_w_13, hN_w_13, hT_w_13⟩ := sh_a hSH 2 (ci := 0) (kd := 13) (len := 40) rfl (by decide) hL_a0 hK_a0
    refine pg_f (v := .ref w_13) (C := RX0) (T := TX0) (N := 16) hx hb hts (tw_i inlX0) hown hK hP hL_a0 hK_a0 (by decide) rfl 2 (by decide) (hts _ (tw_c tw_111)) (pq_hv rfl hR_w_13) dX0_copyFrom_20 ?_
    refine lv_aload_n hx hb dX0_copyFrom_23 rfl (lv_at hl 0 rfl) ?_
    obtain ⟨w_14, hR_w_14, hL_w_14, hK_w_14, hN_w_14, hT_w_14⟩ := sh_a hSH 2 (ci := 0) (kd := 13) (len := 40) rfl (by decide) hL_this hK_this
    refine pg_f (v := .ref w_14) (C := RX0) (T := TX0) (N := 16) hx hb hts (tw_i inlX0) hown hK hP hL_this hK_this (by decide) rfl 2 (by decide) (hts _ (tw_c tw_111)) (pq_hv rfl hR_w_14) dX0_copyFrom_24 ?_
    refine pk_v (va_runSN (As := [.ref w_13, .ref w_14]) (rest := []) ⟨hx, hb, hml, hown, hts⟩ (s_X11_copy_2_2 l D t σ I_2 J ri_7 rj rq H.size tg hSH hG.1 w_13 w_14 hL_w_13 hK_w_13 hN_w_13 hT_w_13 hL_w_14 hK_w_14 hN_w_14 hT_w_14) ⟨va_cnB (host := "RingsUnder") 2 hts (tw_W tw_1102) rfl rfl rfl (nl_15 hN) (hts _ (tw_c tw_2)) cd_yX11_copy_2 ⟨Nat.le_of_ble_eq_true rfl, Nat.le_of_ble_eq_true rfl⟩, hts (.static yX11_copy) (tw_c tq_static_yX11_copy), trivial⟩ ⟨pq_blind, pq_pre hK hN hP hD⟩ rfl rfl hl.1 rfl (lv_room (Nat.le_of_ble_eq_true rfl)) dX0_copyFrom_27 ⟨Nat.le_of_ble_eq_true rfl, Nat.le_of_ble_eq_true rfl⟩) hD hS hA (fun σ1 μ1 H locs hw_16 hP hD hS => ?_)
    obtain ⟨ri_17, hu_18, hg_19, hp_21, hp_22⟩ := hw_16
    obtain ⟨hu_18a, hu_18b⟩ := Prod.mk.inj hu_18
    rw [hu_18a, hu_18b] at hP hD
    have hG := GX.tr hG hg_19 (by decide)
    refine lv_aload_n hx hb dX0_copyFrom_30 rfl (lv_at hl 1 rfl) ?_
    obtain ⟨w_23, hR_w_23, hL_w_23, hK_w_23, hN_w_23, hT_w_23⟩ := sh_a hSH 3 (ci := 0) (kd := 13) (len := 40) rfl (by decide) hL_a0 hK_a0
    refine pg_f (v := .ref w_23) (C := RX0) (T := TX0) (N := 16) hx hb hts (tw_i inlX0) hown hK hP hL_a0 hK_a0 (by decide) rfl 3 (by decide) (hts _ (tw_c tw_112)) (pq_hv rfl hR_w_23) dX0_copyFrom_31 ?_
    refine lv_aload_n hx hb dX0_copyFrom_34 rfl (lv_at hl 0 rfl) ?_
    obtain ⟨w_24, hR_w_24, hL_w_24, hK_w_24, hN_w_24, hT_w_24⟩ := sh_a hSH 3 (ci := 0) (kd := 13) (len := 40) rfl (by decide) hL_this hK_this
    refine pg_f (v := .ref w_24) (C := RX0) (T := TX0) (N := 16) hx hb hts (tw_i inlX0) hown hK hP hL_this hK_this (by decide) rfl 3 (by decide) (hts _ (tw_c tw_112)) (pq_hv rfl hR_w_24) dX0_copyFrom_35 ?_
    refine pk_v (va_runSN (As := [.ref w_23, .ref w_24]) (rest := []) ⟨hx, hb, hml, hown, hts⟩ (s_X11_copy_3_3 l D t σ I_2 J ri_17 rj rq H.size tg hSH hG.1 w_23 w_24 hL_w_23 hK_w_23 hN_w_23 hT_w_23 hL_w_24 hK_w_24 hN_w_24 hT_w_24) ⟨va_cnB (host := "RingsUnder") 2 hts (tw_W tw_1102) rfl rfl rfl (nl_15 hN) (hts _ (tw_c tw_2)) cd_yX11_copy_2 ⟨Nat.le_of_ble_eq_true rfl, Nat.le_of_ble_eq_true rfl⟩, hts (.static yX11_copy) (tw_c tq_static_yX11_copy), trivial⟩ ⟨pq_blind, pq_pre hK hN hP hD⟩ rfl rfl hl.1 rfl (lv_room (Nat.le_of_ble_eq_true rfl)) dX0_copyFrom_38 ⟨Nat.le_of_ble_eq_true rfl, Nat.le_of_ble_eq_true rfl⟩) hD hS hA (fun σ1 μ1 H locs hw_26 hP hD hS => ?_)
    obtain ⟨ri_27, hu_28, hg_29, hp_31, hp_32⟩ := hw_26
    obtain ⟨hu_28a, hu_28b⟩ := Prod.mk.inj hu_28
    rw [hu_28a, hu_28b] at hP hD
    have hG := GX.tr hG hg_29 (by decide)
    refine lv_aload_n hx hb dX0_copyFrom_41 rfl (lv_at hl 1 rfl) ?_
    obtain ⟨w_33, hR_w_33, hL_w_33, hK_w_33, hN_w_33, hT_w_33⟩ := sh_a hSH 4 (ci := 0) (kd := 13) (len := 40) rfl (by decide) hL_a0 hK_a0
    refine pg_f (v := .ref w_33) (C := RX0) (T := TX0) (N := 16) hx hb hts (tw_i inlX0) hown hK hP hL_a0 hK_a0 (by decide) rfl 4 (by decide) (hts _ (tw_c tw_113)) (pq_hv rfl hR_w_33) dX0_copyFrom_42 ?_
    refine lv_aload_n hx hb dX0_copyFrom_45 rfl (lv_at hl 0 rfl) ?_
    obtain ⟨w_34, hR_w_34, hL_w_34, hK_w_34, hN_w_34, hT_w_34⟩ := sh_a hSH 4 (ci := 0) (kd := 13) (len := 40) rfl (by decide) hL_this hK_this
    refine pg_f (v := .ref w_34) (C := RX0) (T := TX0) (N := 16) hx hb hts (tw_i inlX0) hown hK hP hL_this hK_this (by decide) rfl 4 (by decide) (hts _ (tw_c tw_113)) (pq_hv rfl hR_w_34) dX0_copyFrom_46 ?_
    refine pk_v (va_runSN (As := [.ref w_33, .ref w_34]) (rest := []) ⟨hx, hb, hml, hown, hts⟩ (s_X11_copy_4_4 l D t σ I_2 J ri_27 rj rq H.size tg hSH hG.1 w_33 w_34 hL_w_33 hK_w_33 hN_w_33 hT_w_33 hL_w_34 hK_w_34 hN_w_34 hT_w_34) ⟨va_cnB (host := "RingsUnder") 2 hts (tw_W tw_1102) rfl rfl rfl (nl_15 hN) (hts _ (tw_c tw_2)) cd_yX11_copy_2 ⟨Nat.le_of_ble_eq_true rfl, Nat.le_of_ble_eq_true rfl⟩, hts (.static yX11_copy) (tw_c tq_static_yX11_copy), trivial⟩ ⟨pq_blind, pq_pre hK hN hP hD⟩ rfl rfl hl.1 rfl (lv_room (Nat.le_of_ble_eq_true rfl)) dX0_copyFrom_49 ⟨Nat.le_of_ble_eq_true rfl, Nat.le_of_ble_eq_true rfl⟩) hD hS hA (fun σ1 μ1 H locs hw_36 hP hD hS => ?_)
    obtain ⟨ri_37, hu_38, hg_39, hp_41, hp_42⟩ := hw_36
    obtain ⟨hu_38a, hu_38b⟩ := Prod.mk.inj hu_38
    rw [hu_38a, hu_38b] at hP hD
    have hG := GX.tr hG hg_39 (by decide)
    refine lv_aload_n hx hb dX0_copyFrom_52 rfl (lv_at hl 1 rfl) ?_
    obtain ⟨w_43, hR_w_43, hL_w_43, hK_w_43, hN_w_43, hT_w_43⟩ := sh_a hSH 5 (ci := 0) (kd := 13) (len := 40) rfl (by decide) hL_a0 hK_a0
    refine pg_f (v := .ref w_43) (C := RX0) (T := TX0) (N := 16) hx hb hts (tw_i inlX0) hown hK hP hL_a0 hK_a0 (by decide) rfl 5 (by decide) (hts _ (tw_c tw_114)) (pq_hv rfl hR_w_43) dX0_copyFrom_53 ?_
    refine lv_aload_n hx hb dX0_copyFrom_56 rfl (lv_at hl 0 rfl) ?_
    obtain ⟨w_44, hR_w_44, hL_w_44, hK_w_44, hN_w_44, hT_w_44⟩ := sh_a hSH 5 (ci := 0) (kd := 13) (len := 40) rfl (by decide) hL_this hK_this
    refine pg_f (v := .ref w_44) (C := RX0) (T := TX0) (N := 16) hx hb hts (tw_i inlX0) hown hK hP hL_this hK_this (by decide) rfl 5 (by decide) (hts _ (tw_c tw_114)) (pq_hv rfl hR_w_44) dX0_copyFrom_57 ?_
    refine pk_v (va_runSN (As := [.ref w_43, .ref w_44]) (rest := []) ⟨hx, hb, hml, hown, hts⟩ (s_X11_copy_5_5 l D t σ I_2 J ri_37 rj rq H.size tg hSH hG.1 w_43 w_44 hL_w_43 hK_w_43 hN_w_43 hT_w_43 hL_w_44 hK_w_44 hN_w_44 hT_w_44) ⟨va_cnB (host := "RingsUnder") 2 hts (tw_W tw_1102) rfl rfl rfl (nl_15 hN) (hts _ (tw_c tw_2)) cd_yX11_copy_2 ⟨Nat.le_of_ble_eq_true rfl, Nat.le_of_ble_eq_true rfl⟩, hts (.static yX11_copy) (tw_c tq_static_yX11_copy), trivial⟩ ⟨pq_blind, pq_pre hK hN hP hD⟩ rfl rfl hl.1 rfl (lv_room (Nat.le_of_ble_eq_true rfl)) dX0_copyFrom_60 ⟨Nat.le_of_ble_eq_true rfl, Nat.le_of_ble_eq_true rfl⟩) hD hS hA (fun σ1 μ1 H locs hw_46 hP hD hS => ?_)
    obtain ⟨ri_47, hu_48, hg_49, hp_51, hp_52⟩ := hw_46
    obtain ⟨hu_48a, hu_48b⟩ := Prod.mk.inj hu_48
    rw [hu_48a, hu_48b] at hP hD
    have hG := GX.tr hG hg_49 (by decide)
    refine lv_aload_n hx hb dX0_copyFrom_63 rfl (lv_at hl 1 rfl) ?_
    obtain ⟨w_53, hR_w_53, hL_w_53, hK_w_53, hN_w_53, hT_w_53⟩ := sh_a hSH 6 (ci := 0) (kd := 13) (len := 40) rfl (by decide) hL_a0 hK_a0
    refine pg_f (v := .ref w_53) (C := RX0) (T := TX0) (N := 16) hx hb hts (tw_i inlX0) hown hK hP hL_a0 hK_a0 (by decide) rfl 6 (by decide) (hts _ (tw_c tw_115)) (pq_hv rfl hR_w_53) dX0_copyFrom_64 ?_
    refine lv_aload_n hx hb dX0_copyFrom_67 rfl (lv_at hl 0 rfl) ?_
    obtain ⟨w_54, hR_w_54, hL_w_54, hK_w_54, hN_w_54, hT_w_54⟩ := sh_a hSH 6 (ci := 0) (kd := 13) (len := 40) rfl (by decide) hL_this hK_this
    refine pg_f (v := .ref w_54) (C := RX0) (T := TX0) (N := 16) hx hb hts (tw_i inlX0) hown hK hP hL_this hK_this (by decide) rfl 6 (by decide) (hts _ (tw_c tw_115)) (pq_hv rfl hR_w_54) dX0_copyFrom_68 ?_
    refine pk_v (va_runSN (As := [.ref w_53, .ref w_54]) (rest := []) ⟨hx, hb, hml, hown, hts⟩ (s_X11_copy_6_6 l D t σ I_2 J ri_47 rj rq H.size tg hSH hG.1 w_53 w_54 hL_w_53 hK_w_53 hN_w_53 hT_w_53 hL_w_54 hK_w_54 hN_w_54 hT_w_54) ⟨va_cnB (host := "RingsUnder") 2 hts (tw_W tw_1102) rfl rfl rfl (nl_15 hN) (hts _ (tw_c tw_2)) cd_yX11_copy_2 ⟨Nat.le_of_ble_eq_true rfl, Nat.le_of_ble_eq_true rfl⟩, hts (.static yX11_copy) (tw_c tq_static_yX11_copy), trivial⟩ ⟨pq_blind, pq_pre hK hN hP hD⟩ rfl rfl hl.1 rfl (lv_room (Nat.le_of_ble_eq_true rfl)) dX0_copyFrom_71 ⟨Nat.le_of_ble_eq_true rfl, Nat.le_of_ble_eq_true rfl⟩) hD hS hA (fun σ1 μ1 H locs hw_56 hP hD hS => ?_)
    obtain ⟨ri_57, hu_58, hg_59, hp_61, hp_62⟩ := hw_56
    obtain ⟨hu_58a, hu_58b⟩ := Prod.mk.inj hu_58
    rw [hu_58a, hu_58b] at hP hD
    have hG := GX.tr hG hg_59 (by decide)
    refine lv_aload_n hx hb dX0_copyFrom_74 rfl (lv_at hl 1 rfl) ?_
    obtain ⟨w_63, hR_w_63, hL_w_63, hK_w_63, hN_w_63, hT_w_63⟩ := sh_a hSH 7 (ci := 0) (kd := 13) (len := 40) rfl (by decide) hL_a0 hK_a0
    refine pg_f (v := .ref w_63) (C := RX0) (T := TX0) (N := 16) hx hb hts (tw_i inlX0) hown hK hP hL_a0 hK_a0 (by decide) rfl 7 (by decide) (hts _ (tw_c tw_116)) (pq_hv rfl hR_w_63) dX0_copyFrom_75 ?_
    refine lv_aload_n hx hb dX0_copyFrom_78 rfl (lv_at hl 0 rfl) ?_
    obtain ⟨w_64, hR_w_64, hL_w_64, hK_w_64, hN_w_64, hT_w_64⟩ := sh_a hSH 7 (ci := 0) (kd := 13) (len := 40) rfl (by decide) hL_this hK_this
    refine pg_f (v := .ref w_64) (C := RX0) (T := TX0) (N := 16) hx hb hts (tw_i inlX0) hown hK hP hL_this hK_this (by decide) rfl 7 (by decide) (hts _ (tw_c tw_116)) (pq_hv rfl hR_w_64) dX0_copyFrom_79 ?_
    refine pk_v (va_runSN (As := [.ref w_63, .ref w_64]) (rest := []) ⟨hx, hb, hml, hown, hts⟩ (s_X11_copy_7_7 l D t σ I_2 J ri_57 rj rq H.size tg hSH hG.1 w_63 w_64 hL_w_63 hK_w_63 hN_w_63 hT_w_63 hL_w_64 hK_w_64 hN_w_64 hT_w_64) ⟨va_cnB (host := "RingsUnder") 2 hts (tw_W tw_1102) rfl rfl rfl (nl_15 hN) (hts _ (tw_c tw_2)) cd_yX11_copy_2 ⟨Nat.le_of_ble_eq_true rfl, Nat.le_of_ble_eq_true rfl⟩, hts (.static yX11_copy) (tw_c tq_static_yX11_copy), trivial⟩ ⟨pq_blind, pq_pre hK hN hP hD⟩ rfl rfl hl.1 rfl (lv_room (Nat.le_of_ble_eq_true rfl)) dX0_copyFrom_82 ⟨Nat.le_of_ble_eq_true rfl, Nat.le_of_ble_eq_true rfl⟩) hD hS hA (fun σ1 μ1 H locs hw_66 hP hD hS => ?_)
    obtain ⟨ri_67, hu_68, hg_69, hp_71, hp_72⟩ := hw_66
    obtain ⟨hu_68a, hu_68b⟩ := Prod.mk.inj hu_68
    rw [hu_68a, hu_68b] at hP hD
    have hG := GX.tr hG hg_69 (by decide)
    refine lv_aload_n hx hb dX0_copyFrom_85 rfl (lv_at hl 1 rfl) ?_
    obtain ⟨w_73, hR_w_73, hL_w_73, hK_w_73, hN_w_73, hT_w_73⟩ := sh_a hSH 8 (ci := 0) (kd := 13) (len := 40) rfl (by decide) hL_a0 hK_a0
    refine pg_f (v := .ref w_73) (C := RX0) (T := TX0) (N := 16) hx hb hts (tw_i inlX0) hown hK hP hL_a0 hK_a0 (by decide) rfl 8 (by decide) (hts _ (tw_c tw_117)) (pq_hv rfl hR_w_73) dX0_copyFrom_86 ?_
    refine lv_aload_n hx hb dX0_copyFrom_89 rfl (lv_at hl 0 rfl) ?_
    obtain ⟨w_74, hR_w_74, hL_w_74, hK_w_74, hN_w_74, hT_w_74⟩ := sh_a hSH 8 (ci := 0) (kd := 13) (len := 40) rfl (by decide) hL_this hK_this
    refine pg_f (v := .ref w_74) (C := RX0) (T := TX0) (N := 16) hx hb hts (tw_i inlX0) hown hK hP hL_this hK_this (by decide) rfl 8 (by decide) (hts _ (tw_c tw_117)) (pq_hv rfl hR_w_74) dX0_copyFrom_90 ?_
    refine pk_v (va_runSN (As := [.ref w_73, .ref w_74]) (rest := []) ⟨hx, hb, hml, hown, hts⟩ (s_X11_copy_8_8 l D t σ I_2 J ri_67 rj rq H.size tg hSH hG.1 w_73 w_74 hL_w_73 hK_w_73 hN_w_73 hT_w_73 hL_w_74 hK_w_74 hN_w_74 hT_w_74) ⟨va_cnB (host := "RingsUnder") 2 hts (tw_W tw_1102) rfl rfl rfl (nl_15 hN) (hts _ (tw_c tw_2)) cd_yX11_copy_2 ⟨Nat.le_of_ble_eq_true rfl, Nat.le_of_ble_eq_true rfl⟩, hts (.static yX11_copy) (tw_c tq_static_yX11_copy), trivial⟩ ⟨pq_blind, pq_pre hK hN hP hD⟩ rfl rfl hl.1 rfl (lv_room (Nat.le_of_ble_eq_true rfl)) dX0_copyFrom_93 ⟨Nat.le_of_ble_eq_true rfl, Nat.le_of_ble_eq_true rfl⟩) hD hS hA (fun σ1 μ1 H locs hw_76 hP hD hS => ?_)
    obtain ⟨ri_77, hu_78, hg_79, hp_81, hp_82⟩ := hw_76
    obtain ⟨hu_78a, hu_78b⟩ := Prod.mk.inj hu_78
    rw [hu_78a, hu_78b] at hP hD
    have hG := GX.tr hG hg_79 (by decide)
    refine lv_aload_n hx hb dX0_copyFrom_96 rfl (lv_at hl 1 rfl) ?_
    obtain ⟨w_83, hR_w_83, hL_w_83, hK_w_83, hN_w_83, hT_w_83⟩ := sh_a hSH 9 (ci := 0) (kd := 13) (len := 40) rfl (by decide) hL_a0 hK_a0
    refine pg_f (v := .ref w_83) (C := RX0) (T := TX0) (N := 16) hx hb hts (tw_i inlX0) hown hK hP hL_a0 hK_a0 (by decide) rfl 9 (by decide) (hts _ (tw_c tw_118)) (pq_hv rfl hR_w_83) dX0_copyFrom_97 ?_
    refine lv_aload_n hx hb dX0_copyFrom_100 rfl (lv_at hl 0 rfl) ?_
    obtain ⟨w_84, hR_w_84, hL_w_84, hK_w_84, hN_w_84, hT_w_84⟩ := sh_a hSH 9 (ci := 0) (kd := 13) (len := 40) rfl (by decide) hL_this hK_this
    refine pg_f (v := .ref w_84) (C := RX0) (T := TX0) (N := 16) hx hb hts (tw_i inlX0) hown hK hP hL_this hK_this (by decide) rfl 9 (by decide) (hts _ (tw_c tw_118)) (pq_hv rfl hR_w_84) dX0_copyFrom_101 ?_
    refine pk_v (va_runSN (As := [.ref w_83, .ref w_84]) (rest := []) ⟨hx, hb, hml, hown, hts⟩ (s_X11_copy_9_9 l D t σ I_2 J ri_77 rj rq H.size tg hSH hG.1 w_83 w_84 hL_w_83 hK_w_83 hN_w_83 hT_w_83 hL_w_84 hK_w_84 hN_w_84 hT_w_84) ⟨va_cnB (host := "RingsUnder") 2 hts (tw_W tw_1102) rfl rfl rfl (nl_15 hN) (hts _ (tw_c tw_2)) cd_yX11_copy_2 ⟨Nat.le_of_ble_eq_true rfl, Nat.le_of_ble_eq_true rfl⟩, hts (.static yX11_copy) (tw_c tq_static_yX11_copy), trivial⟩ ⟨pq_blind, pq_pre hK hN hP hD⟩ rfl rfl hl.1 rfl (lv_room (Nat.le_of_ble_eq_true rfl)) dX0_copyFrom_104 ⟨Nat.le_of_ble_eq_true rfl, Nat.le_of_ble_eq_true rfl⟩) hD hS hA (fun σ1 μ1 H locs hw_86 hP hD hS => ?_)
    obtain ⟨ri_87, hu_88, hg_89, hp_91, hp_92⟩ := hw_86
    obtain ⟨hu_88a, hu_88b⟩ := Prod.mk.inj hu_88
    rw [hu_88a, hu_88b] at hP hD
    have hG := GX.tr hG hg_89 (by decide)
    refine lv_aload_n hx hb dX0_copyFrom_107 rfl (lv_at hl 0 rfl) ?_
    refine lv_aload_n hx hb dX0_copyFrom_108 rfl (lv_at hl 1 rfl) ?_
    refine pg_f (v := .int (I_2 10 a0)) (C := RX0) (T := TX0) (N := 16) hx hb hts (tw_i inlX0) hown hK hP hL_a0 hK_a0 (by decide) rfl 10 (by decide) (hts _ (tw_c tw_1171)) rfl dX0_copyFrom_109 ?_
    have h_93 : rg (I_2 10 a0) 0 5 := GX.rI hG 10 rfl
    refine pp_i (v := (I_2 10 a0)) (ty := .int) (C := RX0) (T := TX0) (N := 16) hx hb hts (tw_i inlX0) tyX0 tyX0_ok nmX0 hown hK hP hD hS hL_this hK_this (by decide) rfl 10 10 (by decide) (hts _ (tw_c tw_1171)) rfl (tyX0_ok 10 (by decide)) rfl rfl (Nat.le_of_ble_eq_true rfl) (ps_10 _ _ _ _ _) dX0_copyFrom_112 (fun I_94 H locs eI_94 hP hD hS => ?_)
    have hG := GX.wI hG 10 rfl eI_94 (rg_w h_93 (by decide)) (by decide)
    refine lv_aload_n hx hb dX0_copyFrom_115 rfl (lv_at hl 1 rfl) ?_
    obtain ⟨w_95, hR_w_95, hL_w_95, hK_w_95, hN_w_95, hT_w_95⟩ := sh_a hSH 11 (ci := 0) (kd := 13) (len := 5) rfl (by decide) hL_a0 hK_a0
    refine pg_f (v := .ref w_95) (C := RX0) (T := TX0) (N := 16) hx hb hts (tw_i inlX0) hown hK hP hL_a0 hK_a0 (by decide) rfl 11 (by decide) (hts _ (tw_c tw_119)) (pq_hv rfl hR_w_95) dX0_copyFrom_116 ?_
    refine lv_aload_n hx hb dX0_copyFrom_119 rfl (lv_at hl 0 rfl) ?_
    obtain ⟨w_96, hR_w_96, hL_w_96, hK_w_96, hN_w_96, hT_w_96⟩ := sh_a hSH 11 (ci := 0) (kd := 13) (len := 5) rfl (by decide) hL_this hK_this
    refine pg_f (v := .ref w_96) (C := RX0) (T := TX0) (N := 16) hx hb hts (tw_i inlX0) hown hK hP hL_this hK_this (by decide) rfl 11 (by decide) (hts _ (tw_c tw_119)) (pq_hv rfl hR_w_96) dX0_copyFrom_120 ?_
    refine pk_v (va_runSN (As := [.ref w_95, .ref w_96]) (rest := []) ⟨hx, hb, hml, hown, hts⟩ (s_X11_copy_11_11 l D t σ I_94 J ri_87 rj rq H.size tg hSH hG.1 w_95 w_96 hL_w_95 hK_w_95 hN_w_95 hT_w_95 hL_w_96 hK_w_96 hN_w_96 hT_w_96) ⟨va_cnB (host := "RingsUnder") 2 hts (tw_W tw_1102) rfl rfl rfl (nl_15 hN) (hts _ (tw_c tw_2)) cd_yX11_copy_2 ⟨Nat.le_of_ble_eq_true rfl, Nat.le_of_ble_eq_true rfl⟩, hts (.static yX11_copy) (tw_c tq_static_yX11_copy), trivial⟩ ⟨pq_blind, pq_pre hK hN hP hD⟩ rfl rfl hl.1 rfl (lv_room (Nat.le_of_ble_eq_true rfl)) dX0_copyFrom_123 ⟨Nat.le_of_ble_eq_true rfl, Nat.le_of_ble_eq_true rfl⟩) hD hS hA (fun σ1 μ1 H locs hw_98 hP hD hS => ?_)
    obtain ⟨ri_99, hu_100, hg_101, hp_103, hp_104⟩ := hw_98
    obtain ⟨hu_100a, hu_100b⟩ := Prod.mk.inj hu_100
    rw [hu_100a, hu_100b] at hP hD
    have hG := GX.tr hG hg_101 (by decide)
    subst hQ
    exact W.vret hx hb hr (fun t1 ht hW => ⟨⟨(σ, I_94, J, ri_99, rj, rq), rfl, ⟨I_94, ri_99, rfl, hG, (by rw [(pq_uF eI_94), (pq_uO (f := 10) eI_2 (by decide))]), (by rw [(pq_uO (f := 0) eI_94 (by decide)), (pq_uF eI_2)])⟩, by rw [ht]; exact hP, va_K.moved hW.alike hK, hD⟩, hS.F ht⟩) hS.2.2 dX0_copyFrom_126
  exact go _ _ _ hP hD hS hl

set_option maxHeartbeats 4000000 in
set_option maxRecDepth 100000 in
theorem s_X1_copyFrom_w (l : Launch) (D : va_G) (t : pq_T) (σ : pq_S) (I : Nat → Nat → Int32) (J : Nat → Nat → Int64) (ri : Nat → Nat → Int32) (rj : Nat → Nat → Int64) (rq : Nat → Nat → Option Nat) (sz : Nat) (tg : Nat → Nat) (hSH : SH σ tg) (hG0 : GS tg σ I ri rq) (this : Nat) (a0 : Nat) (hL_this : this ∈ σ.1) (hK_this : σ.2.1 this = 1) (hL_a0 : a0 ∈ σ.1) (hK_a0 : σ.2.1 a0 = 1) (this_cell : Nat) (hR_this_cell : σ.2.2.1 33 this = some this_cell) (hL_this_cell : this_cell ∈ σ.1) (hK_this_cell : σ.2.1 this_cell = 13) (hN_this_cell : σ.2.2.2 this_cell = 30) (hT_this_cell : tg this_cell = 33) (a0_cell : Nat) (hR_a0_cell : σ.2.2.1 33 a0 = some a0_cell) (hL_a0_cell : a0_cell ∈ σ.1) (hK_a0_cell : σ.2.1 a0_cell = 13) (hN_a0_cell : σ.2.2.2 a0_cell = 30) (hT_a0_cell : tg a0_cell = 33) : MetV l yX1_copyFrom (wa yX1_copyFrom cX1_copyFrom 2 none) ({ frames := 2, cells := 0, slots := 0, locals := 81 }) [.ref this, .ref a0] D t σ (I, J, ri, rj, rq) sz 0 0 (fun (u : pq_S × pq_M) => ∃ I' : Nat → Nat → Int32, ∃ ri' : Nat → Nat → Int32, ∃ rj' : Nat → Nat → Int64, u = (σ, I', J, ri', rj', rq) ∧ GX [32, 1033, 1034] tg σ I ri rj I' ri' rj' rq ∧ (I' 32 = va_up (I 32) this (I 32 a0)) ∧ (RCP tg 33 30 this_cell a0_cell ri ri')) := by
  refine Met.ofW (cc := cX1_copyFrom) (maxL := 2) (ret := none) (by decide) rfl ?_
  intro p e s m args below meth c s₁ B hml hv
  obtain ⟨rfl, hsz, hP, hK, hD0, hN⟩ := hv
  have hx := B.exec
  have hb := B.bytes
  have hr := B.returns
  have hts := atoms_spec (ws := (wa yX1_copyFrom cX1_copyFrom 2 none)) B.pre
  have hown : s.vm.findClass RX1 = some m.cls := findClass_of_methodNamed B.named
  have hlocks := B.notSynchronized
  subst hsz
  have hD : va_D (pq_B t σ (I, J, ri, rj, rq) s.heap.size) (pq_P t σ (I, J, ri, rj, rq)) := hD0.self
  generalize hAe : pq_B t σ (I, J, ri, rj, rq) s.heap.size = A at hD ⊢
  have hA : ∀ q : Nat, s.heap.size ≤ q → A q := fun q h => by rw [← hAe]; exact Or.inr h
  have hS : va_S A s.heap s.heap [] := va_S.rf
  have hG : GX [32, 1033, 1034] tg σ I ri rj I ri rj rq := ⟨hG0, fun _ _ _ => rfl, fun _ _ _ _ _ => rfl, fun _ _ _ _ _ => rfl⟩
  have hl := lv_entry ([.ref this, .ref a0]) (n := 2) (Nat.le_of_ble_eq_true rfl)
  rw [lg_entry_eq]
  generalize (lg_sl ([.ref this, .ref a0]) ++ List.replicate (2 - (lg_sl ([.ref this, .ref a0])).length) Slot.unset).toArray = ls at hl ⊢
  have hl : lv_has ls 2 [(0, .ref this), (1, .ref a0)] := hl
  refine q_gen (fun Q hQ => ?_)
  have go : ∀ (H : Heap) (locs : List Loc) (ls : Array Slot), va_P D vwCl (pq_P t σ (I, J, ri, rj, rq)) H → va_D A (pq_P t σ (I, J, ri, rj, rq)) → va_S A s.heap H locs → lv_has ls 2 [(0, .ref this), (1, .ref a0)] → W p l e ({ frames := 2, cells := 0, slots := 0, locals := 81 } : Room) s m (List.toArray ([.ref this, .ref a0] : List Value)) below meth c H locs 0 0 Q (F0 m 0 ls []) := by
    intro H locs ls hP hD hS hl
    refine lv_aload_n hx hb dX1_copyFrom_0 rfl (lv_at hl 0 rfl) ?_
    refine lv_aload_n hx hb dX1_copyFrom_1 rfl (lv_at hl 1 rfl) ?_
    refine pg_f (v := .int (I 32 a0)) (C := RX1) (T := TX1) (N := 3) hx hb hts (tw_i inlX1) hown hK hP hL_a0 hK_a0 (by decide) rfl 0 (by decide) (hts _ (tw_c tw_1393)) rfl dX1_copyFrom_2 ?_
    have h_1 : rg (I 32 a0) 0 30 := GX.rI hG 32 rfl
    refine pp_i (v := (I 32 a0)) (ty := .int) (C := RX1) (T := TX1) (N := 3) hx hb hts (tw_i inlX1) tyX1 tyX1_ok nmX1 hown hK hP hD hS hL_this hK_this (by decide) rfl 0 32 (by decide) (hts _ (tw_c tw_1393)) rfl (tyX1_ok 0 (by decide)) rfl rfl (Nat.le_of_ble_eq_true rfl) (ps_32 _ _ _ _ _) dX1_copyFrom_5 (fun I_2 H locs eI_2 hP hD hS => ?_)
    have hG := GX.wI hG 32 rfl eI_2 (rg_w h_1 (by decide)) (by decide)
    refine lv_aload_n hx hb dX1_copyFrom_8 rfl (lv_at hl 1 rfl) ?_
    refine pg_f (v := .ref a0_cell) (C := RX1) (T := TX1) (N := 3) hx hb hts (tw_i inlX1) hown hK hP hL_a0 hK_a0 (by decide) rfl 1 (by decide) (hts _ (tw_c tw_137)) (pq_hv rfl hR_a0_cell) dX1_copyFrom_9 ?_
    refine lv_aload_n hx hb dX1_copyFrom_12 rfl (lv_at hl 0 rfl) ?_
    refine pg_f (v := .ref this_cell) (C := RX1) (T := TX1) (N := 3) hx hb hts (tw_i inlX1) hown hK hP hL_this hK_this (by decide) rfl 1 (by decide) (hts _ (tw_c tw_137)) (pq_hv rfl hR_this_cell) dX1_copyFrom_13 ?_
    refine pk_v (va_runSN (As := [.ref a0_cell, .ref this_cell]) (rest := []) ⟨hx, hb, hml, hown, hts⟩ (s_X11_copy_33_33 l D t σ I_2 J ri rj rq H.size tg hSH hG.1 a0_cell this_cell hL_a0_cell hK_a0_cell hN_a0_cell hT_a0_cell hL_this_cell hK_this_cell hN_this_cell hT_this_cell) ⟨va_cnB (host := "RingsUnder") 2 hts (tw_W tw_1102) rfl rfl rfl (nl_22 hN) (hts _ (tw_c tw_2)) cd_yX11_copy_2 ⟨Nat.le_of_ble_eq_true rfl, Nat.le_of_ble_eq_true rfl⟩, hts (.static yX11_copy) (tw_c tq_static_yX11_copy), trivial⟩ ⟨pq_blind, pq_pre hK hN hP hD⟩ rfl rfl hl.1 rfl (lv_room (Nat.le_of_ble_eq_true rfl)) dX1_copyFrom_16 ⟨Nat.le_of_ble_eq_true rfl, Nat.le_of_ble_eq_true rfl⟩) hD hS hA (fun σ1 μ1 H locs hw_4 hP hD hS => ?_)
    obtain ⟨ri_5, hu_6, hg_7, hp_9, hp_10⟩ := hw_4
    obtain ⟨hu_6a, hu_6b⟩ := Prod.mk.inj hu_6
    rw [hu_6a, hu_6b] at hP hD
    have hG := GX.tr hG hg_7 (by decide)
    refine lv_aload_n hx hb dX1_copyFrom_19 rfl (lv_at hl 1 rfl) ?_
    obtain ⟨w_11, hR_w_11, hL_w_11, hK_w_11, hN_w_11, hT_w_11⟩ := sh_a hSH 34 (ci := 1) (kd := 14) (len := 30) rfl (by decide) hL_a0 hK_a0
    refine pg_f (v := .ref w_11) (C := RX1) (T := TX1) (N := 3) hx hb hts (tw_i inlX1) hown hK hP hL_a0 hK_a0 (by decide) rfl 2 (by decide) (hts _ (tw_c tw_138)) (pq_hv rfl hR_w_11) dX1_copyFrom_20 ?_
    refine lv_iconst (v := 0) hx hb dX1_copyFrom_23 (by decide) ?_
    refine lv_aload_n hx hb dX1_copyFrom_24 rfl (lv_at hl 0 rfl) ?_
    obtain ⟨w_12, hR_w_12, hL_w_12, hK_w_12, hN_w_12, hT_w_12⟩ := sh_a hSH 34 (ci := 1) (kd := 14) (len := 30) rfl (by decide) hL_this hK_this
    refine pg_f (v := .ref w_12) (C := RX1) (T := TX1) (N := 3) hx hb hts (tw_i inlX1) hown hK hP hL_this hK_this (by decide) rfl 2 (by decide) (hts _ (tw_c tw_138)) (pq_hv rfl hR_w_12) dX1_copyFrom_25 ?_
    refine lv_iconst (v := 0) hx hb dX1_copyFrom_28 (by decide) ?_
    refine lv_bipush (v := 30) hx hb dX1_copyFrom_29 (by decide) ?_
    refine pc_l hx hb (hml.trans hl.1.symm) hown (hts _ (tw_c tw_1394)) (hts _ (tw_c tw_1105)) (hts _ (tw_c tw_1106)) (hts _ (tw_c tw_1107)) hK hP hD hS hL_w_11 hK_w_11 hN_w_11 hL_w_12 hK_w_12 hN_w_12 (rg_pos (rg_k (0 : Int32) 0 rfl) (by decide)) (rg_pos (rg_k (30 : Int32) 30 rfl) (by decide)) (rg_cp (rg_k (0 : Int32) 0 rfl) (rg_k (30 : Int32) 30 rfl) (by decide)) (rg_cl (rg_k (30 : Int32) 30 rfl) (by decide)) (Nat.le_of_ble_eq_true rfl) (Nat.le_of_ble_eq_true rfl) dX1_copyFrom_31 (fun r_13 H locs er_13 hP hD hS => ?_)
    have hG := GX.wJ hG hT_w_12 er_13 (by decide)
    subst hQ
    exact W.vret hx hb hr (fun t1 ht hW => ⟨⟨(σ, I_2, J, ri_5, r_13, rq), rfl, ⟨I_2, ri_5, r_13, rfl, hG, (by rw [(pq_uF eI_2)]), ⟨hp_9, fun q _ hq => hp_10 q hq⟩⟩, by rw [ht]; exact hP, va_K.moved hW.alike hK, hD⟩, hS.F ht⟩) hS.2.2 dX1_copyFrom_34
  exact go _ _ _ hP hD hS hl

set_option maxHeartbeats 4000000 in
set_option maxRecDepth 100000 in
theorem s_X10_copyFrom_w (l : Launch) (D : va_G) (t : pq_T) (σ : pq_S) (I : Nat → Nat → Int32) (J : Nat → Nat → Int64) (ri : Nat → Nat → Int32) (rj : Nat → Nat → Int64) (rq : Nat → Nat → Option Nat) (sz : Nat) (tg : Nat → Nat) (hSH : SH σ tg) (hG0 : GS tg σ I ri rq) (this : Nat) (a0 : Nat) (hL_this : this ∈ σ.1) (hK_this : σ.2.1 this = 10) (hL_a0 : a0 ∈ σ.1) (hK_a0 : σ.2.1 a0 = 10) : MetV l yX10_copyFrom (wa yX10_copyFrom cX10_copyFrom 2 none) ({ frames := 4, cells := 0, slots := 0, locals := 123 }) [.ref this, .ref a0] D t σ (I, J, ri, rj, rq) sz 0 0 (fun (u : pq_S × pq_M) => ∃ I' : Nat → Nat → Int32, ∃ J' : Nat → Nat → Int64, ∃ ri' : Nat → Nat → Int32, ∃ rj' : Nat → Nat → Int64, ∃ rq' : Nat → Nat → Option Nat, u = (σ, I', J', ri', rj', rq') ∧ GX [320, 224, 1225, 1226, 1227, 1228, 1229, 1230, 1231, 1232, 1233, 234, 235, 236, 64, 65, 1069, 1070, 1073, 1074, 1075, 1288, 1079, 0, 1005, 10, 96, 98, 32, 1033, 1034] tg σ I ri rj I' ri' rj' rq' ∧ (I' 320 this = I 320 a0) ∧ (UPC σ I I' this a0) ∧ (UPR σ tg ri ri' this a0)) := by
  refine Met.ofW (cc := cX10_copyFrom) (maxL := 2) (ret := none) (by decide) rfl ?_
  intro p e s m args below meth c s₁ B hml hv
  obtain ⟨rfl, hsz, hP, hK, hD0, hN⟩ := hv
  have hx := B.exec
  have hb := B.bytes
  have hr := B.returns
  have hts := atoms_spec (ws := (wa yX10_copyFrom cX10_copyFrom 2 none)) B.pre
  have hown : s.vm.findClass RX10 = some m.cls := findClass_of_methodNamed B.named
  have hlocks := B.notSynchronized
  subst hsz
  have hD : va_D (pq_B t σ (I, J, ri, rj, rq) s.heap.size) (pq_P t σ (I, J, ri, rj, rq)) := hD0.self
  generalize hAe : pq_B t σ (I, J, ri, rj, rq) s.heap.size = A at hD ⊢
  have hA : ∀ q : Nat, s.heap.size ≤ q → A q := fun q h => by rw [← hAe]; exact Or.inr h
  have hS : va_S A s.heap s.heap [] := va_S.rf
  have hG : GX [320, 224, 1225, 1226, 1227, 1228, 1229, 1230, 1231, 1232, 1233, 234, 235, 236, 64, 65, 1069, 1070, 1073, 1074, 1075, 1288, 1079, 0, 1005, 10, 96, 98, 32, 1033, 1034] tg σ I ri rj I ri rj rq := ⟨hG0, fun _ _ _ => rfl, fun _ _ _ _ _ => rfl, fun _ _ _ _ _ => rfl⟩
  have hl := lv_entry ([.ref this, .ref a0]) (n := 2) (Nat.le_of_ble_eq_true rfl)
  rw [lg_entry_eq]
  generalize (lg_sl ([.ref this, .ref a0]) ++ List.replicate (2 - (lg_sl ([.ref this, .ref a0])).length) Slot.unset).toArray = ls at hl ⊢
  have hl : lv_has ls 2 [(0, .ref this), (1, .ref a0)] := hl
  refine q_gen (fun Q hQ => ?_)
  have go : ∀ (H : Heap) (locs : List Loc) (ls : Array Slot), va_P D vwCl (pq_P t σ (I, J, ri, rj, rq)) H → va_D A (pq_P t σ (I, J, ri, rj, rq)) → va_S A s.heap H locs → lv_has ls 2 [(0, .ref this), (1, .ref a0)] → W p l e ({ frames := 4, cells := 0, slots := 0, locals := 123 } : Room) s m (List.toArray ([.ref this, .ref a0] : List Value)) below meth c H locs 0 0 Q (F0 m 0 ls []) := by
    intro H locs ls hP hD hS hl
    refine lv_aload_n hx hb dX10_copyFrom_0 rfl (lv_at hl 0 rfl) ?_
    refine lv_aload_n hx hb dX10_copyFrom_1 rfl (lv_at hl 1 rfl) ?_
    refine pg_f (v := .int (I 320 a0)) (C := RX10) (T := TX10) (N := 13) hx hb hts (tw_i inlX10) hown hK hP hL_a0 hK_a0 (by decide) rfl 0 (by decide) (hts _ (tw_c tw_457)) rfl dX10_copyFrom_2 ?_
    have h_1 : rg (I 320 a0) 0 600 := GX.rI hG 320 rfl
    refine pp_i (v := (I 320 a0)) (ty := .int) (C := RX10) (T := TX10) (N := 13) hx hb hts (tw_i inlX10) tyX10 tyX10_ok nmX10 hown hK hP hD hS hL_this hK_this (by decide) rfl 0 320 (by decide) (hts _ (tw_c tw_457)) rfl (tyX10_ok 0 (by decide)) rfl rfl (Nat.le_of_ble_eq_true rfl) (ps_320 _ _ _ _ _) dX10_copyFrom_5 (fun I_2 H locs eI_2 hP hD hS => ?_)
    have hG := GX.wI hG 320 rfl eI_2 (rg_w h_1 (by decide)) (by decide)
    refine lv_aload_n hx hb dX10_copyFrom_8 rfl (lv_at hl 0 rfl) ?_
    refine lv_aload_n hx hb dX10_copyFrom_9 rfl (lv_at hl 1 rfl) ?_
    refine pg_f (v := .int (I_2 321 a0)) (C := RX10) (T := TX10) (N := 13) hx hb hts (tw_i inlX10) hown hK hP hL_a0 hK_a0 (by decide) rfl 1 (by decide) (hts _ (tw_c tw_1131)) rfl dX10_copyFrom_10 ?_
    refine pp_i (v := (I_2 321 a0)) (ty := .int) (C := RX10) (T := TX10) (N := 13) hx hb hts (tw_i inlX10) tyX10 tyX10_ok nmX10 hown hK hP hD hS hL_this hK_this (by decide) rfl 1 321 (by decide) (hts _ (tw_c tw_1131)) rfl (tyX10_ok 1 (by decide)) rfl rfl (Nat.le_of_ble_eq_true rfl) (ps_321 _ _ _ _ _) dX10_copyFrom_13 (fun I_3 H locs eI_3 hP hD hS => ?_)
    have hG := GX.wI hG 321 rfl eI_3 (rg_w (rg_full _) (by decide)) (by decide)
    refine lv_aload_n hx hb dX10_copyFrom_16 rfl (lv_at hl 0 rfl) ?_
    refine lv_aload_n hx hb dX10_copyFrom_17 rfl (lv_at hl 1 rfl) ?_
    refine pg_f (v := .int (I_3 322 a0)) (C := RX10) (T := TX10) (N := 13) hx hb hts (tw_i inlX10) hown hK hP hL_a0 hK_a0 (by decide) rfl 2 (by decide) (hts _ (tw_c tw_1046)) rfl dX10_copyFrom_18 ?_
    refine pp_i (v := (I_3 322 a0)) (ty := .int) (C := RX10) (T := TX10) (N := 13) hx hb hts (tw_i inlX10) tyX10 tyX10_ok nmX10 hown hK hP hD hS hL_this hK_this (by decide) rfl 2 322 (by decide) (hts _ (tw_c tw_1046)) rfl (tyX10_ok 2 (by decide)) rfl rfl (Nat.le_of_ble_eq_true rfl) (ps_322 _ _ _ _ _) dX10_copyFrom_21 (fun I_4 H locs eI_4 hP hD hS => ?_)
    have hG := GX.wI hG 322 rfl eI_4 (rg_w (rg_full _) (by decide)) (by decide)
    refine lv_aload_n hx hb dX10_copyFrom_24 rfl (lv_at hl 0 rfl) ?_
    refine lv_aload_n hx hb dX10_copyFrom_25 rfl (lv_at hl 1 rfl) ?_
    refine pg_f (v := .int (I_4 323 a0)) (C := RX10) (T := TX10) (N := 13) hx hb hts (tw_i inlX10) hown hK hP hL_a0 hK_a0 (by decide) rfl 3 (by decide) (hts _ (tw_c tw_31)) rfl dX10_copyFrom_26 ?_
    refine pp_i (v := (I_4 323 a0)) (ty := .int) (C := RX10) (T := TX10) (N := 13) hx hb hts (tw_i inlX10) tyX10 tyX10_ok nmX10 hown hK hP hD hS hL_this hK_this (by decide) rfl 3 323 (by decide) (hts _ (tw_c tw_31)) rfl (tyX10_ok 3 (by decide)) rfl rfl (Nat.le_of_ble_eq_true rfl) (ps_323 _ _ _ _ _) dX10_copyFrom_29 (fun I_5 H locs eI_5 hP hD hS => ?_)
    have hG := GX.wI hG 323 rfl eI_5 (rg_w (rg_full _) (by decide)) (by decide)
    refine lv_aload_n hx hb dX10_copyFrom_32 rfl (lv_at hl 0 rfl) ?_
    refine lv_aload_n hx hb dX10_copyFrom_33 rfl (lv_at hl 1 rfl) ?_
    refine pg_f (v := .int (I_5 324 a0)) (C := RX10) (T := TX10) (N := 13) hx hb hts (tw_i inlX10) hown hK hP hL_a0 hK_a0 (by decide) rfl 4 (by decide) (hts _ (tw_c tw_32)) rfl dX10_copyFrom_34 ?_
    refine pp_i (v := (I_5 324 a0)) (ty := .int) (C := RX10) (T := TX10) (N := 13) hx hb hts (tw_i inlX10) tyX10 tyX10_ok nmX10 hown hK hP hD hS hL_this hK_this (by decide) rfl 4 324 (by decide) (hts _ (tw_c tw_32)) rfl (tyX10_ok 4 (by decide)) rfl rfl (Nat.le_of_ble_eq_true rfl) (ps_324 _ _ _ _ _) dX10_copyFrom_37 (fun I_6 H locs eI_6 hP hD hS => ?_)
    have hG := GX.wI hG 324 rfl eI_6 (rg_w (rg_full _) (by decide)) (by decide)
    refine lv_aload_n hx hb dX10_copyFrom_40 rfl (lv_at hl 1 rfl) ?_
    obtain ⟨w_7, hR_w_7, hL_w_7, hK_w_7, hN_w_7, hT_w_7⟩ := sh_a hSH 325 (ci := 10) (kd := 13) (len := 40) rfl (by decide) hL_a0 hK_a0
    refine pg_f (v := .ref w_7) (C := RX10) (T := TX10) (N := 13) hx hb hts (tw_i inlX10) hown hK hP hL_a0 hK_a0 (by decide) rfl 5 (by decide) (hts _ (tw_c tw_34)) (pq_hv rfl hR_w_7) dX10_copyFrom_41 ?_
    refine lv_aload_n hx hb dX10_copyFrom_44 rfl (lv_at hl 0 rfl) ?_
    obtain ⟨w_8, hR_w_8, hL_w_8, hK_w_8, hN_w_8, hT_w_8⟩ := sh_a hSH 325 (ci := 10) (kd := 13) (len := 40) rfl (by decide) hL_this hK_this
    refine pg_f (v := .ref w_8) (C := RX10) (T := TX10) (N := 13) hx hb hts (tw_i inlX10) hown hK hP hL_this hK_this (by decide) rfl 5 (by decide) (hts _ (tw_c tw_34)) (pq_hv rfl hR_w_8) dX10_copyFrom_45 ?_
    refine pk_v (va_runSN (As := [.ref w_7, .ref w_8]) (rest := []) ⟨hx, hb, hml, hown, hts⟩ (s_X11_copy_325_325 l D t σ I_6 J ri rj rq H.size tg hSH hG.1 w_7 w_8 hL_w_7 hK_w_7 hN_w_7 hT_w_7 hL_w_8 hK_w_8 hN_w_8 hT_w_8) ⟨va_cnB (host := "RingsUnder") 2 hts (tw_W tw_1102) rfl rfl rfl (nl_17 hN) (hts _ (tw_c tw_2)) cd_yX11_copy_2 ⟨Nat.le_of_ble_eq_true rfl, Nat.le_of_ble_eq_true rfl⟩, hts (.static yX11_copy) (tw_c tq_static_yX11_copy), trivial⟩ ⟨pq_blind, pq_pre hK hN hP hD⟩ rfl rfl hl.1 rfl (lv_room (Nat.le_of_ble_eq_true rfl)) dX10_copyFrom_48 ⟨Nat.le_of_ble_eq_true rfl, Nat.le_of_ble_eq_true rfl⟩) hD hS hA (fun σ1 μ1 H locs hw_10 hP hD hS => ?_)
    obtain ⟨ri_11, hu_12, hg_13, hp_15, hp_16⟩ := hw_10
    obtain ⟨hu_12a, hu_12b⟩ := Prod.mk.inj hu_12
    rw [hu_12a, hu_12b] at hP hD
    have hG := GX.tr hG hg_13 (by decide)
    refine lv_aload_n hx hb dX10_copyFrom_51 rfl (lv_at hl 0 rfl) ?_
    obtain ⟨w_17, hR_w_17, hL_w_17, hK_w_17⟩ := sh_o hSH 326 (ci := 10) (kd := 7) rfl hL_this hK_this
    refine pg_f (v := .ref w_17) (C := RX10) (T := TX10) (N := 13) hx hb hts (tw_i inlX10) hown hK hP hL_this hK_this (by decide) rfl 6 (by decide) (hts _ (tw_c tw_38)) (pq_hv rfl hR_w_17) dX10_copyFrom_52 ?_
    refine lv_aload_n hx hb dX10_copyFrom_55 rfl (lv_at hl 1 rfl) ?_
    obtain ⟨w_18, hR_w_18, hL_w_18, hK_w_18⟩ := sh_o hSH 326 (ci := 10) (kd := 7) rfl hL_a0 hK_a0
    refine pg_f (v := .ref w_18) (C := RX10) (T := TX10) (N := 13) hx hb hts (tw_i inlX10) hown hK hP hL_a0 hK_a0 (by decide) rfl 6 (by decide) (hts _ (tw_c tw_38)) (pq_hv rfl hR_w_18) dX10_copyFrom_56 ?_
    refine pk_v (va_runV (As := [.ref w_18]) (rest := []) ⟨hx, hb, hml, hown, hts⟩ (s_X7_copyFrom_w l D t σ I_6 J ri_11 rj rq H.size tg hSH hG.1 w_17 w_18 hL_w_17 hK_w_17 hL_w_18 hK_w_18) (cwV 1 hts (tw_V tw_1366 tw_1367 tw_1368 tw_37 tw_1369) rfl rfl rfl cv_yX7_copyFrom_1 ⟨Nat.le_of_ble_eq_true rfl, Nat.le_of_ble_eq_true rfl⟩) ⟨pq_blind, pq_recv hK hP hL_w_17 hK_w_17 (by decide) rfl, pq_pre hK hN hP hD⟩ rfl rfl hl.1 rfl (lv_room (Nat.le_of_ble_eq_true rfl)) dX10_copyFrom_59 ⟨Nat.le_of_ble_eq_true rfl, Nat.le_of_ble_eq_true rfl⟩) hD hS hA (fun σ1 μ1 H locs hw_20 hP hD hS => ?_)
    obtain ⟨I_21, ri_22, hu_23, hg_24, hp_26⟩ := hw_20
    obtain ⟨hu_23a, hu_23b⟩ := Prod.mk.inj hu_23
    rw [hu_23a, hu_23b] at hP hD
    have hG := GX.tr hG hg_24 (by decide)
    refine lv_aload_n hx hb dX10_copyFrom_62 rfl (lv_at hl 0 rfl) ?_
    obtain ⟨w_27, hR_w_27, hL_w_27, hK_w_27⟩ := sh_o hSH 327 (ci := 10) (kd := 2) rfl hL_this hK_this
    refine pg_f (v := .ref w_27) (C := RX10) (T := TX10) (N := 13) hx hb hts (tw_i inlX10) hown hK hP hL_this hK_this (by decide) rfl 7 (by decide) (hts _ (tw_c tw_42)) (pq_hv rfl hR_w_27) dX10_copyFrom_63 ?_
    refine lv_aload_n hx hb dX10_copyFrom_66 rfl (lv_at hl 1 rfl) ?_
    obtain ⟨w_28, hR_w_28, hL_w_28, hK_w_28⟩ := sh_o hSH 327 (ci := 10) (kd := 2) rfl hL_a0 hK_a0
    refine pg_f (v := .ref w_28) (C := RX10) (T := TX10) (N := 13) hx hb hts (tw_i inlX10) hown hK hP hL_a0 hK_a0 (by decide) rfl 7 (by decide) (hts _ (tw_c tw_42)) (pq_hv rfl hR_w_28) dX10_copyFrom_67 ?_
    obtain ⟨w_29, hR_w_29, hL_w_29, hK_w_29⟩ := sh_o hSH 78 (ci := 2) (kd := 9) rfl hL_w_27 hK_w_27
    obtain ⟨w_30, hR_w_30, hL_w_30, hK_w_30⟩ := sh_o hSH 78 (ci := 2) (kd := 9) rfl hL_w_28 hK_w_28
    obtain ⟨w_31, hR_w_31, hL_w_31, hK_w_31, hN_w_31, hT_w_31⟩ := sh_a hSH 288 (ci := 9) (kd := 13) (len := 40) rfl (by decide) hL_w_29 hK_w_29
    obtain ⟨w_32, hR_w_32, hL_w_32, hK_w_32, hN_w_32, hT_w_32⟩ := sh_a hSH 288 (ci := 9) (kd := 13) (len := 40) rfl (by decide) hL_w_30 hK_w_30
    refine pk_v (va_runV (As := [.ref w_28]) (rest := []) ⟨hx, hb, hml, hown, hts⟩ (s_X2_copyFrom_w l D t σ I_21 J ri_22 rj rq H.size tg hSH hG.1 w_27 w_28 hL_w_27 hK_w_27 hL_w_28 hK_w_28 w_29 hR_w_29 hL_w_29 hK_w_29 w_30 hR_w_30 hL_w_30 hK_w_30 w_31 hR_w_31 hL_w_31 hK_w_31 hN_w_31 hT_w_31 w_32 hR_w_32 hL_w_32 hK_w_32 hN_w_32 hT_w_32) (cwV 1 hts (tw_V tw_1370 tw_1371 tw_1372 tw_41 tw_1373) rfl rfl rfl cv_yX2_copyFrom_1 ⟨Nat.le_of_ble_eq_true rfl, Nat.le_of_ble_eq_true rfl⟩) ⟨pq_blind, pq_recv hK hP hL_w_27 hK_w_27 (by decide) rfl, pq_pre hK hN hP hD⟩ rfl rfl hl.1 rfl (lv_room (Nat.le_of_ble_eq_true rfl)) dX10_copyFrom_70 ⟨Nat.le_of_ble_eq_true rfl, Nat.le_of_ble_eq_true rfl⟩) hD hS hA (fun σ1 μ1 H locs hw_34 hP hD hS => ?_)
    obtain ⟨I_35, J_36, ri_37, rj_38, hu_39, hg_40, hp_42, hp_43, hp_44⟩ := hw_34
    obtain ⟨hu_39a, hu_39b⟩ := Prod.mk.inj hu_39
    rw [hu_39a, hu_39b] at hP hD
    have hG := GX.tr hG hg_40 (by decide)
    refine lv_aload_n hx hb dX10_copyFrom_73 rfl (lv_at hl 0 rfl) ?_
    obtain ⟨w_45, hR_w_45, hL_w_45, hK_w_45⟩ := sh_o hSH 328 (ci := 10) (kd := 0) rfl hL_this hK_this
    refine pg_f (v := .ref w_45) (C := RX10) (T := TX10) (N := 13) hx hb hts (tw_i inlX10) hown hK hP hL_this hK_this (by decide) rfl 8 (by decide) (hts _ (tw_c tw_46)) (pq_hv rfl hR_w_45) dX10_copyFrom_74 ?_
    refine lv_aload_n hx hb dX10_copyFrom_77 rfl (lv_at hl 1 rfl) ?_
    obtain ⟨w_46, hR_w_46, hL_w_46, hK_w_46⟩ := sh_o hSH 328 (ci := 10) (kd := 0) rfl hL_a0 hK_a0
    refine pg_f (v := .ref w_46) (C := RX10) (T := TX10) (N := 13) hx hb hts (tw_i inlX10) hown hK hP hL_a0 hK_a0 (by decide) rfl 8 (by decide) (hts _ (tw_c tw_46)) (pq_hv rfl hR_w_46) dX10_copyFrom_78 ?_
    refine pk_v (va_runV (As := [.ref w_46]) (rest := []) ⟨hx, hb, hml, hown, hts⟩ (s_X0_copyFrom_w l D t σ I_35 J_36 ri_37 rj_38 rq H.size tg hSH hG.1 w_45 w_46 hL_w_45 hK_w_45 hL_w_46 hK_w_46) (cwV 1 hts (tw_V tw_1380 tw_1381 tw_1382 tw_45 tw_1383) rfl rfl rfl cv_yX0_copyFrom_1 ⟨Nat.le_of_ble_eq_true rfl, Nat.le_of_ble_eq_true rfl⟩) ⟨pq_blind, pq_recv hK hP hL_w_45 hK_w_45 (by decide) rfl, pq_pre hK hN hP hD⟩ rfl rfl hl.1 rfl (lv_room (Nat.le_of_ble_eq_true rfl)) dX10_copyFrom_81 ⟨Nat.le_of_ble_eq_true rfl, Nat.le_of_ble_eq_true rfl⟩) hD hS hA (fun σ1 μ1 H locs hw_48 hP hD hS => ?_)
    obtain ⟨I_49, ri_50, hu_51, hg_52, hp_54, hp_55⟩ := hw_48
    obtain ⟨hu_51a, hu_51b⟩ := Prod.mk.inj hu_51
    rw [hu_51a, hu_51b] at hP hD
    have hG := GX.tr hG hg_52 (by decide)
    refine lv_aload_n hx hb dX10_copyFrom_84 rfl (lv_at hl 0 rfl) ?_
    obtain ⟨w_56, hR_w_56, hL_w_56, hK_w_56⟩ := sh_o hSH 329 (ci := 10) (kd := 3) rfl hL_this hK_this
    refine pg_f (v := .ref w_56) (C := RX10) (T := TX10) (N := 13) hx hb hts (tw_i inlX10) hown hK hP hL_this hK_this (by decide) rfl 9 (by decide) (hts _ (tw_c tw_50)) (pq_hv rfl hR_w_56) dX10_copyFrom_85 ?_
    refine lv_aload_n hx hb dX10_copyFrom_88 rfl (lv_at hl 1 rfl) ?_
    obtain ⟨w_57, hR_w_57, hL_w_57, hK_w_57⟩ := sh_o hSH 329 (ci := 10) (kd := 3) rfl hL_a0 hK_a0
    refine pg_f (v := .ref w_57) (C := RX10) (T := TX10) (N := 13) hx hb hts (tw_i inlX10) hown hK hP hL_a0 hK_a0 (by decide) rfl 9 (by decide) (hts _ (tw_c tw_50)) (pq_hv rfl hR_w_57) dX10_copyFrom_89 ?_
    refine pk_v (va_runV (As := [.ref w_57]) (rest := []) ⟨hx, hb, hml, hown, hts⟩ (s_X3_copyFrom l D t σ I_49 J_36 ri_50 rj_38 rq H.size tg hSH hG.1 w_56 w_57 hL_w_56 hK_w_56 hL_w_57 hK_w_57) (cwV 1 hts (tw_V tw_1384 tw_1385 tw_1386 tw_49 tw_1387) rfl rfl rfl cv_yX3_copyFrom_1 ⟨Nat.le_of_ble_eq_true rfl, Nat.le_of_ble_eq_true rfl⟩) ⟨pq_blind, pq_recv hK hP hL_w_56 hK_w_56 (by decide) rfl, pq_pre hK hN hP hD⟩ rfl rfl hl.1 rfl (lv_room (Nat.le_of_ble_eq_true rfl)) dX10_copyFrom_92 ⟨Nat.le_of_ble_eq_true rfl, Nat.le_of_ble_eq_true rfl⟩) hD hS hA (fun σ1 μ1 H locs hw_59 hP hD hS => ?_)
    obtain ⟨I_60, ri_61, rq_62, hu_63, hg_64⟩ := hw_59
    obtain ⟨hu_63a, hu_63b⟩ := Prod.mk.inj hu_63
    rw [hu_63a, hu_63b] at hP hD
    have hG := GX.tr hG hg_64 (by decide)
    refine lv_aload_n hx hb dX10_copyFrom_95 rfl (lv_at hl 0 rfl) ?_
    obtain ⟨w_66, hR_w_66, hL_w_66, hK_w_66⟩ := sh_o hSH 330 (ci := 10) (kd := 1) rfl hL_this hK_this
    refine pg_f (v := .ref w_66) (C := RX10) (T := TX10) (N := 13) hx hb hts (tw_i inlX10) hown hK hP hL_this hK_this (by decide) rfl 10 (by decide) (hts _ (tw_c tw_54)) (pq_hv rfl hR_w_66) dX10_copyFrom_96 ?_
    refine lv_aload_n hx hb dX10_copyFrom_99 rfl (lv_at hl 1 rfl) ?_
    obtain ⟨w_67, hR_w_67, hL_w_67, hK_w_67⟩ := sh_o hSH 330 (ci := 10) (kd := 1) rfl hL_a0 hK_a0
    refine pg_f (v := .ref w_67) (C := RX10) (T := TX10) (N := 13) hx hb hts (tw_i inlX10) hown hK hP hL_a0 hK_a0 (by decide) rfl 10 (by decide) (hts _ (tw_c tw_54)) (pq_hv rfl hR_w_67) dX10_copyFrom_100 ?_
    obtain ⟨w_68, hR_w_68, hL_w_68, hK_w_68, hN_w_68, hT_w_68⟩ := sh_a hSH 33 (ci := 1) (kd := 13) (len := 30) rfl (by decide) hL_w_66 hK_w_66
    obtain ⟨w_69, hR_w_69, hL_w_69, hK_w_69, hN_w_69, hT_w_69⟩ := sh_a hSH 33 (ci := 1) (kd := 13) (len := 30) rfl (by decide) hL_w_67 hK_w_67
    refine pk_v (va_runV (As := [.ref w_67]) (rest := []) ⟨hx, hb, hml, hown, hts⟩ (s_X1_copyFrom_w l D t σ I_60 J_36 ri_61 rj_38 rq_62 H.size tg hSH hG.1 w_66 w_67 hL_w_66 hK_w_66 hL_w_67 hK_w_67 w_68 hR_w_68 hL_w_68 hK_w_68 hN_w_68 hT_w_68 w_69 hR_w_69 hL_w_69 hK_w_69 hN_w_69 hT_w_69) (cwV 1 hts (tw_V tw_1389 tw_1390 tw_1391 tw_53 tw_1392) rfl rfl rfl cv_yX1_copyFrom_1 ⟨Nat.le_of_ble_eq_true rfl, Nat.le_of_ble_eq_true rfl⟩) ⟨pq_blind, pq_recv hK hP hL_w_66 hK_w_66 (by decide) rfl, pq_pre hK hN hP hD⟩ rfl rfl hl.1 rfl (lv_room (Nat.le_of_ble_eq_true rfl)) dX10_copyFrom_103 ⟨Nat.le_of_ble_eq_true rfl, Nat.le_of_ble_eq_true rfl⟩) hD hS hA (fun σ1 μ1 H locs hw_71 hP hD hS => ?_)
    obtain ⟨I_72, ri_73, rj_74, hu_75, hg_76, hp_78, hp_79⟩ := hw_71
    obtain ⟨hu_75a, hu_75b⟩ := Prod.mk.inj hu_75
    rw [hu_75a, hu_75b] at hP hD
    have hG := GX.tr hG hg_76 (by decide)
    subst hQ
    exact W.vret hx hb hr (fun t1 ht hW => ⟨⟨(σ, I_72, J_36, ri_73, rj_74, rq_62), rfl, ⟨I_72, J_36, ri_73, rj_74, rq_62, rfl, hG, ((congrFun (hg_76.2.1 320 (by decide) (by decide)) this).trans ((congrFun (hg_64.2.1 320 (by decide) (by decide)) this).trans ((congrFun (hg_52.2.1 320 (by decide) (by decide)) this).trans ((congrFun (hg_40.2.1 320 (by decide) (by decide)) this).trans ((congrFun (hg_24.2.1 320 (by decide) (by decide)) this).trans ((congrFun (show I_6 320 = I_5 320 from by rw [eI_6]; exact pq_uf _ _ _ (by decide)) this).trans ((congrFun (show I_5 320 = I_4 320 from by rw [eI_5]; exact pq_uf _ _ _ (by decide)) this).trans ((congrFun (show I_4 320 = I_3 320 from by rw [eI_4]; exact pq_uf _ _ _ (by decide)) this).trans ((congrFun (show I_3 320 = I_2 320 from by rw [eI_3]; exact pq_uf _ _ _ (by decide)) this).trans (by rw [eI_2]; exact pq_us _ _ _ _)))))))))), (upc_mk hR_w_17 hR_w_18 hR_w_27 hR_w_28 hR_w_45 hR_w_46 hR_w_66 hR_w_67 (by rw [(hg_76.2.1 320 (by decide) (by decide)), (hg_64.2.1 320 (by decide) (by decide)), (hg_52.2.1 320 (by decide) (by decide)), (hg_40.2.1 320 (by decide) (by decide)), (hg_24.2.1 320 (by decide) (by decide)), (pq_uO (f := 320) eI_6 (by decide)), (pq_uO (f := 320) eI_5 (by decide)), (pq_uO (f := 320) eI_4 (by decide)), (pq_uO (f := 320) eI_3 (by decide)), (pq_uF eI_2)]) (by rw [(hg_76.2.1 64 (by decide) (by decide)), (hg_64.2.1 64 (by decide) (by decide)), (hg_52.2.1 64 (by decide) (by decide)), hp_42, (hg_24.2.1 64 (by decide) (by decide)), (pq_uO (f := 64) eI_6 (by decide)), (pq_uO (f := 64) eI_5 (by decide)), (pq_uO (f := 64) eI_4 (by decide)), (pq_uO (f := 64) eI_3 (by decide)), (pq_uO (f := 64) eI_2 (by decide))]) (by rw [(hg_76.2.1 65 (by decide) (by decide)), (hg_64.2.1 65 (by decide) (by decide)), (hg_52.2.1 65 (by decide) (by decide)), hp_43, (hg_24.2.1 65 (by decide) (by decide)), (pq_uO (f := 65) eI_6 (by decide)), (pq_uO (f := 65) eI_5 (by decide)), (pq_uO (f := 65) eI_4 (by decide)), (pq_uO (f := 65) eI_3 (by decide)), (pq_uO (f := 65) eI_2 (by decide))]) (by rw [(hg_76.2.1 224 (by decide) (by decide)), (hg_64.2.1 224 (by decide) (by decide)), (hg_52.2.1 224 (by decide) (by decide)), (hg_40.2.1 224 (by decide) (by decide)), hp_26, (pq_uO (f := 224) eI_6 (by decide)), (pq_uO (f := 224) eI_5 (by decide)), (pq_uO (f := 224) eI_4 (by decide)), (pq_uO (f := 224) eI_3 (by decide)), (pq_uO (f := 224) eI_2 (by decide))]) (by rw [(hg_76.2.1 10 (by decide) (by decide)), (hg_64.2.1 10 (by decide) (by decide)), hp_54, (hg_40.2.1 10 (by decide) (by decide)), (hg_24.2.1 10 (by decide) (by decide)), (pq_uO (f := 10) eI_6 (by decide)), (pq_uO (f := 10) eI_5 (by decide)), (pq_uO (f := 10) eI_4 (by decide)), (pq_uO (f := 10) eI_3 (by decide)), (pq_uO (f := 10) eI_2 (by decide))]) (by rw [(hg_76.2.1 0 (by decide) (by decide)), (hg_64.2.1 0 (by decide) (by decide)), hp_55, (hg_40.2.1 0 (by decide) (by decide)), (hg_24.2.1 0 (by decide) (by decide)), (pq_uO (f := 0) eI_6 (by decide)), (pq_uO (f := 0) eI_5 (by decide)), (pq_uO (f := 0) eI_4 (by decide)), (pq_uO (f := 0) eI_3 (by decide)), (pq_uO (f := 0) eI_2 (by decide))]) (by rw [hp_78, (hg_64.2.1 32 (by decide) (by decide)), (hg_52.2.1 32 (by decide) (by decide)), (hg_40.2.1 32 (by decide) (by decide)), (hg_24.2.1 32 (by decide) (by decide)), (pq_uO (f := 32) eI_6 (by decide)), (pq_uO (f := 32) eI_5 (by decide)), (pq_uO (f := 32) eI_4 (by decide)), (pq_uO (f := 32) eI_3 (by decide)), (pq_uO (f := 32) eI_2 (by decide))])), (upr_mk hR_w_27 hR_w_29 hR_w_31 hR_w_28 hR_w_30 hR_w_32 hR_w_66 hR_w_68 hR_w_67 hR_w_69 (rcp_r (rcp_r (rcp_r (rcp_l (rid_t (rid_c hg_13 (by decide)) (rid_c hg_24 (by decide))) hT_w_32 hp_44) hT_w_31 (rid_c hg_52 (by decide))) hT_w_31 (rid_c hg_64 (by decide))) hT_w_31 (rid_c hg_76 (by decide))) (rcp_l (rid_t (rid_t (rid_t (rid_t (rid_c hg_13 (by decide)) (rid_c hg_24 (by decide))) (rid_c hg_40 (by decide))) (rid_c hg_52 (by decide))) (rid_c hg_64 (by decide))) hT_w_69 hp_79))⟩, by rw [ht]; exact hP, va_K.moved hW.alike hK, hD⟩, hS.F ht⟩) hS.2.2 dX10_copyFrom_106
  exact go _ _ _ hP hD hS hl

set_option maxHeartbeats 4000000 in
set_option maxRecDepth 100000 in
theorem s_X11_image_w (l : Launch) (D : va_G) (t : pq_T) (σ : pq_S) (I : Nat → Nat → Int32) (J : Nat → Nat → Int64) (ri : Nat → Nat → Int32) (rj : Nat → Nat → Int64) (rq : Nat → Nat → Option Nat) (sz : Nat) (tg : Nat → Nat) (hSH : SH σ tg) (hG0 : GS tg σ I ri rq) (this : Nat) (hL_this : this ∈ σ.1) (hK_this : σ.2.1 this = 11) (this_now : Nat) (hR_this_now : σ.2.2.1 352 this = some this_now) (hL_this_now : this_now ∈ σ.1) (hK_this_now : σ.2.1 this_now = 10) (this_kept : Nat) (hR_this_kept : σ.2.2.1 353 this = some this_kept) (hL_this_kept : this_kept ∈ σ.1) (hK_this_kept : σ.2.1 this_kept = 10) : MetI l yX11_image (wa yX11_image cX11_image 1 (some .int)) ({ frames := 5, cells := 0, slots := 0, locals := 144 }) [.ref this] D t σ (I, J, ri, rj, rq) sz 0 0 (fun (r : Int32) (u : pq_S × pq_M) => ∃ I' : Nat → Nat → Int32, ∃ J' : Nat → Nat → Int64, ∃ ri' : Nat → Nat → Int32, ∃ rj' : Nat → Nat → Int64, ∃ rq' : Nat → Nat → Option Nat, u = (σ, I', J', ri', rj', rq') ∧ GX [320, 224, 1225, 1226, 1227, 1228, 1229, 1230, 1231, 1232, 1233, 234, 235, 236, 64, 65, 1069, 1070, 1073, 1074, 1075, 1288, 1079, 0, 1005, 10, 96, 98, 32, 1033, 1034] tg σ I ri rj I' ri' rj' rq' ∧ (UPC σ I I' this_kept this_now) ∧ (r = I 320 this_now) ∧ (UPR σ tg ri ri' this_kept this_now) ∧ rg r 0 600) := by
  refine Met.ofW (cc := cX11_image) (maxL := 1) (ret := (some .int)) (by decide) rfl ?_
  intro p e s m args below meth c s₁ B hml hv
  obtain ⟨rfl, hsz, hP, hK, hD0, hN⟩ := hv
  have hx := B.exec
  have hb := B.bytes
  have hr := B.returns
  have hts := atoms_spec (ws := (wa yX11_image cX11_image 1 (some .int))) B.pre
  have hown : s.vm.findClass RX11 = some m.cls := findClass_of_methodNamed B.named
  have hlocks := B.notSynchronized
  subst hsz
  have hD : va_D (pq_B t σ (I, J, ri, rj, rq) s.heap.size) (pq_P t σ (I, J, ri, rj, rq)) := hD0.self
  generalize hAe : pq_B t σ (I, J, ri, rj, rq) s.heap.size = A at hD ⊢
  have hA : ∀ q : Nat, s.heap.size ≤ q → A q := fun q h => by rw [← hAe]; exact Or.inr h
  have hS : va_S A s.heap s.heap [] := va_S.rf
  have hG : GX [320, 224, 1225, 1226, 1227, 1228, 1229, 1230, 1231, 1232, 1233, 234, 235, 236, 64, 65, 1069, 1070, 1073, 1074, 1075, 1288, 1079, 0, 1005, 10, 96, 98, 32, 1033, 1034] tg σ I ri rj I ri rj rq := ⟨hG0, fun _ _ _ => rfl, fun _ _ _ _ _ => rfl, fun _ _ _ _ _ => rfl⟩
  have hl := lv_entry ([.ref this]) (n := 1) (Nat.le_of_ble_eq_true rfl)
  rw [lg_entry_eq]
  generalize (lg_sl ([.ref this]) ++ List.replicate (1 - (lg_sl ([.ref this])).length) Slot.unset).toArray = ls at hl ⊢
  have hl : lv_has ls 1 [(0, .ref this)] := hl
  refine q_gen (fun Q hQ => ?_)
  have go : ∀ (H : Heap) (locs : List Loc) (ls : Array Slot), va_P D vwCl (pq_P t σ (I, J, ri, rj, rq)) H → va_D A (pq_P t σ (I, J, ri, rj, rq)) → va_S A s.heap H locs → lv_has ls 1 [(0, .ref this)] → W p l e ({ frames := 5, cells := 0, slots := 0, locals := 144 } : Room) s m (List.toArray ([.ref this] : List Value)) below meth c H locs 0 0 Q (F0 m 0 ls []) := by
    intro H locs ls hP hD hS hl
    refine lv_aload_n hx hb dX11_image_0 rfl (lv_at hl 0 rfl) ?_
    refine pg_f (v := .ref this_kept) (C := RX11) (T := TX11) (N := 5) hx hb hts (tw_i inlX11) hown hK hP hL_this hK_this (by decide) rfl 1 (by decide) (hts _ (tw_c tw_17)) (pq_hv rfl hR_this_kept) dX11_image_1 ?_
    refine lv_aload_n hx hb dX11_image_4 rfl (lv_at hl 0 rfl) ?_
    refine pg_f (v := .ref this_now) (C := RX11) (T := TX11) (N := 5) hx hb hts (tw_i inlX11) hown hK hP hL_this hK_this (by decide) rfl 0 (by decide) (hts _ (tw_c tw_16)) (pq_hv rfl hR_this_now) dX11_image_5 ?_
    refine pk_v (va_runV (As := [.ref this_now]) (rest := []) ⟨hx, hb, hml, hown, hts⟩ (s_X10_copyFrom_w l D t σ I J ri rj rq H.size tg hSH hG.1 this_kept this_now hL_this_kept hK_this_kept hL_this_now hK_this_now) (cwV 1 hts (tw_V tw_1362 tw_1363 tw_1364 tw_15 tw_1365) rfl rfl rfl cv_yX10_copyFrom_1 ⟨Nat.le_of_ble_eq_true rfl, Nat.le_of_ble_eq_true rfl⟩) ⟨pq_blind, pq_recv hK hP hL_this_kept hK_this_kept (by decide) rfl, pq_pre hK hN hP hD⟩ rfl rfl hl.1 rfl (lv_room (Nat.le_of_ble_eq_true rfl)) dX11_image_8 ⟨Nat.le_of_ble_eq_true rfl, Nat.le_of_ble_eq_true rfl⟩) hD hS hA (fun σ1 μ1 H locs hw_2 hP hD hS => ?_)
    obtain ⟨I_3, J_4, ri_5, rj_6, rq_7, hu_8, hg_9, hp_11, hp_12, hp_13⟩ := hw_2
    obtain ⟨hu_8a, hu_8b⟩ := Prod.mk.inj hu_8
    rw [hu_8a, hu_8b] at hP hD
    have tt_14 : (I_3 320 this_kept).toInt = (I 320 this_now).toInt := congrArg Int32.toInt hp_11
    have hG := GX.tr hG hg_9 (by decide)
    refine lv_aload_n hx hb dX11_image_11 rfl (lv_at hl 0 rfl) ?_
    refine pg_f (v := .ref this_now) (C := RX11) (T := TX11) (N := 5) hx hb hts (tw_i inlX11) hown hK hP hL_this hK_this (by decide) rfl 0 (by decide) (hts _ (tw_c tw_16)) (pq_hv rfl hR_this_now) dX11_image_12 ?_
    refine pg_f (v := .int (I_3 320 this_now)) (C := RX10) (T := TX10) (N := 13) hx hb hts (tw_i inlX10) hown hK hP hL_this_now hK_this_now (by decide) rfl 0 (by decide) (hts _ (tw_c tw_209)) rfl dX11_image_15 ?_
    have h_15 : rg (I_3 320 this_now) 0 600 := GX.rI hG 320 rfl
    have uh_15 := h_15.1
    have vh_15 := h_15.2
    subst hQ
    exact W.iret (v := (I_3 320 this_now)) hx hb hr (fun t1 ht hW => ⟨⟨(I_3 320 this_now), (σ, I_3, J_4, ri_5, rj_6, rq_7), rfl, ⟨I_3, J_4, ri_5, rj_6, rq_7, rfl, hG, hp_12, (upc_v hp_12), hp_13, (rg_w h_15 (by decide))⟩, by rw [ht]; exact hP, va_K.moved hW.alike hK, hD⟩, hS.F ht⟩) hS.2.2 dX11_image_18
  exact go _ _ _ hP hD hS hl

set_option maxHeartbeats 4000000 in
set_option maxRecDepth 100000 in
theorem s_X11_back_w (l : Launch) (D : va_G) (t : pq_T) (σ : pq_S) (I : Nat → Nat → Int32) (J : Nat → Nat → Int64) (ri : Nat → Nat → Int32) (rj : Nat → Nat → Int64) (rq : Nat → Nat → Option Nat) (sz : Nat) (tg : Nat → Nat) (hSH : SH σ tg) (hG0 : GS tg σ I ri rq) (this : Nat) (hL_this : this ∈ σ.1) (hK_this : σ.2.1 this = 11) (this_now : Nat) (hR_this_now : σ.2.2.1 352 this = some this_now) (hL_this_now : this_now ∈ σ.1) (hK_this_now : σ.2.1 this_now = 10) (this_kept : Nat) (hR_this_kept : σ.2.2.1 353 this = some this_kept) (hL_this_kept : this_kept ∈ σ.1) (hK_this_kept : σ.2.1 this_kept = 10) : MetI l yX11_back (wa yX11_back cX11_back 1 (some .int)) ({ frames := 5, cells := 0, slots := 0, locals := 144 }) [.ref this] D t σ (I, J, ri, rj, rq) sz 0 0 (fun (r : Int32) (u : pq_S × pq_M) => ∃ I' : Nat → Nat → Int32, ∃ J' : Nat → Nat → Int64, ∃ ri' : Nat → Nat → Int32, ∃ rj' : Nat → Nat → Int64, ∃ rq' : Nat → Nat → Option Nat, u = (σ, I', J', ri', rj', rq') ∧ GX [320, 224, 1225, 1226, 1227, 1228, 1229, 1230, 1231, 1232, 1233, 234, 235, 236, 64, 65, 1069, 1070, 1073, 1074, 1075, 1288, 1079, 0, 1005, 10, 96, 98, 32, 1033, 1034] tg σ I ri rj I' ri' rj' rq' ∧ (UPC σ I I' this_now this_kept) ∧ (r = I 320 this_kept) ∧ (UPR σ tg ri ri' this_now this_kept) ∧ rg r 0 600) := by
  refine Met.ofW (cc := cX11_back) (maxL := 1) (ret := (some .int)) (by decide) rfl ?_
  intro p e s m args below meth c s₁ B hml hv
  obtain ⟨rfl, hsz, hP, hK, hD0, hN⟩ := hv
  have hx := B.exec
  have hb := B.bytes
  have hr := B.returns
  have hts := atoms_spec (ws := (wa yX11_back cX11_back 1 (some .int))) B.pre
  have hown : s.vm.findClass RX11 = some m.cls := findClass_of_methodNamed B.named
  have hlocks := B.notSynchronized
  subst hsz
  have hD : va_D (pq_B t σ (I, J, ri, rj, rq) s.heap.size) (pq_P t σ (I, J, ri, rj, rq)) := hD0.self
  generalize hAe : pq_B t σ (I, J, ri, rj, rq) s.heap.size = A at hD ⊢
  have hA : ∀ q : Nat, s.heap.size ≤ q → A q := fun q h => by rw [← hAe]; exact Or.inr h
  have hS : va_S A s.heap s.heap [] := va_S.rf
  have hG : GX [320, 224, 1225, 1226, 1227, 1228, 1229, 1230, 1231, 1232, 1233, 234, 235, 236, 64, 65, 1069, 1070, 1073, 1074, 1075, 1288, 1079, 0, 1005, 10, 96, 98, 32, 1033, 1034] tg σ I ri rj I ri rj rq := ⟨hG0, fun _ _ _ => rfl, fun _ _ _ _ _ => rfl, fun _ _ _ _ _ => rfl⟩
  have hl := lv_entry ([.ref this]) (n := 1) (Nat.le_of_ble_eq_true rfl)
  rw [lg_entry_eq]
  generalize (lg_sl ([.ref this]) ++ List.replicate (1 - (lg_sl ([.ref this])).length) Slot.unset).toArray = ls at hl ⊢
  have hl : lv_has ls 1 [(0, .ref this)] := hl
  refine q_gen (fun Q hQ => ?_)
  have go : ∀ (H : Heap) (locs : List Loc) (ls : Array Slot), va_P D vwCl (pq_P t σ (I, J, ri, rj, rq)) H → va_D A (pq_P t σ (I, J, ri, rj, rq)) → va_S A s.heap H locs → lv_has ls 1 [(0, .ref this)] → W p l e ({ frames := 5, cells := 0, slots := 0, locals := 144 } : Room) s m (List.toArray ([.ref this] : List Value)) below meth c H locs 0 0 Q (F0 m 0 ls []) := by
    intro H locs ls hP hD hS hl
    refine lv_aload_n hx hb dX11_back_0 rfl (lv_at hl 0 rfl) ?_
    refine pg_f (v := .ref this_now) (C := RX11) (T := TX11) (N := 5) hx hb hts (tw_i inlX11) hown hK hP hL_this hK_this (by decide) rfl 0 (by decide) (hts _ (tw_c tw_16)) (pq_hv rfl hR_this_now) dX11_back_1 ?_
    refine lv_aload_n hx hb dX11_back_4 rfl (lv_at hl 0 rfl) ?_
    refine pg_f (v := .ref this_kept) (C := RX11) (T := TX11) (N := 5) hx hb hts (tw_i inlX11) hown hK hP hL_this hK_this (by decide) rfl 1 (by decide) (hts _ (tw_c tw_17)) (pq_hv rfl hR_this_kept) dX11_back_5 ?_
    refine pk_v (va_runV (As := [.ref this_kept]) (rest := []) ⟨hx, hb, hml, hown, hts⟩ (s_X10_copyFrom_w l D t σ I J ri rj rq H.size tg hSH hG.1 this_now this_kept hL_this_now hK_this_now hL_this_kept hK_this_kept) (cwV 1 hts (tw_V tw_1362 tw_1363 tw_1364 tw_15 tw_1365) rfl rfl rfl cv_yX10_copyFrom_1 ⟨Nat.le_of_ble_eq_true rfl, Nat.le_of_ble_eq_true rfl⟩) ⟨pq_blind, pq_recv hK hP hL_this_now hK_this_now (by decide) rfl, pq_pre hK hN hP hD⟩ rfl rfl hl.1 rfl (lv_room (Nat.le_of_ble_eq_true rfl)) dX11_back_8 ⟨Nat.le_of_ble_eq_true rfl, Nat.le_of_ble_eq_true rfl⟩) hD hS hA (fun σ1 μ1 H locs hw_2 hP hD hS => ?_)
    obtain ⟨I_3, J_4, ri_5, rj_6, rq_7, hu_8, hg_9, hp_11, hp_12, hp_13⟩ := hw_2
    obtain ⟨hu_8a, hu_8b⟩ := Prod.mk.inj hu_8
    rw [hu_8a, hu_8b] at hP hD
    have tt_14 : (I_3 320 this_now).toInt = (I 320 this_kept).toInt := congrArg Int32.toInt hp_11
    have hG := GX.tr hG hg_9 (by decide)
    refine lv_aload_n hx hb dX11_back_11 rfl (lv_at hl 0 rfl) ?_
    refine pg_f (v := .ref this_now) (C := RX11) (T := TX11) (N := 5) hx hb hts (tw_i inlX11) hown hK hP hL_this hK_this (by decide) rfl 0 (by decide) (hts _ (tw_c tw_16)) (pq_hv rfl hR_this_now) dX11_back_12 ?_
    refine pg_f (v := .int (I_3 320 this_now)) (C := RX10) (T := TX10) (N := 13) hx hb hts (tw_i inlX10) hown hK hP hL_this_now hK_this_now (by decide) rfl 0 (by decide) (hts _ (tw_c tw_209)) rfl dX11_back_15 ?_
    have h_15 : rg (I_3 320 this_now) 0 600 := GX.rI hG 320 rfl
    have uh_15 := h_15.1
    have vh_15 := h_15.2
    subst hQ
    exact W.iret (v := (I_3 320 this_now)) hx hb hr (fun t1 ht hW => ⟨⟨(I_3 320 this_now), (σ, I_3, J_4, ri_5, rj_6, rq_7), rfl, ⟨I_3, J_4, ri_5, rj_6, rq_7, rfl, hG, hp_12, (upc_w hp_12), hp_13, (rg_w h_15 (by decide))⟩, by rw [ht]; exact hP, va_K.moved hW.alike hK, hD⟩, hS.F ht⟩) hS.2.2 dX11_back_18
  exact go _ _ _ hP hD hS hl

set_option maxHeartbeats 4000000 in
set_option maxRecDepth 100000 in
theorem s_X11_isCell_w (l : Launch) (D : va_G) (t : pq_T) (σ : pq_S) (I : Nat → Nat → Int32) (J : Nat → Nat → Int64) (ri : Nat → Nat → Int32) (rj : Nat → Nat → Int64) (rq : Nat → Nat → Option Nat) (sz : Nat) (tg : Nat → Nat) (hSH : SH σ tg) (hG0 : GS tg σ I ri rq) (this : Nat) (a0 : Int32) (hL_this : this ∈ σ.1) (hK_this : σ.2.1 this = 11) (this_now : Nat) (hR_this_now : σ.2.2.1 352 this = some this_now) (hL_this_now : this_now ∈ σ.1) (hK_this_now : σ.2.1 this_now = 10) (this_now_land : Nat) (hR_this_now_land : σ.2.2.1 327 this_now = some this_now_land) (hL_this_now_land : this_now_land ∈ σ.1) (hK_this_now_land : σ.2.1 this_now_land = 2) : MetI l yX11_isCell (wa yX11_isCell cX11_isCell 2 (some .boolean)) ({ frames := 1, cells := 0, slots := 0, locals := 22 }) [.ref this, .int a0] D t σ (I, J, ri, rj, rq) sz 0 0 (fun (r : Int32) (u : pq_S × pq_M) => u = (σ, I, J, ri, rj, rq) ∧ ((r = 1 ∧ rg a0 0 39 ∧ (0 ≤ a0.toInt ∧ a0.toInt < (I 65 this_now_land).toInt)) ∨ (r = 0 ∧ (¬ (0 ≤ a0.toInt ∧ a0.toInt < (I 65 this_now_land).toInt))))) := by
  refine Met.ofW (cc := cX11_isCell) (maxL := 2) (ret := (some .boolean)) (by decide) rfl ?_
  intro p e s m args below meth c s₁ B hml hv
  obtain ⟨rfl, hsz, hP, hK, hD0, hN⟩ := hv
  have hx := B.exec
  have hb := B.bytes
  have hr := B.returns
  have hts := atoms_spec (ws := (wa yX11_isCell cX11_isCell 2 (some .boolean))) B.pre
  have hown : s.vm.findClass RX11 = some m.cls := findClass_of_methodNamed B.named
  have hlocks := B.notSynchronized
  subst hsz
  have hD : va_D (pq_B t σ (I, J, ri, rj, rq) s.heap.size) (pq_P t σ (I, J, ri, rj, rq)) := hD0.self
  generalize hAe : pq_B t σ (I, J, ri, rj, rq) s.heap.size = A at hD ⊢
  have hA : ∀ q : Nat, s.heap.size ≤ q → A q := fun q h => by rw [← hAe]; exact Or.inr h
  have hS : va_S A s.heap s.heap [] := va_S.rf
  have hG : GX [] tg σ I ri rj I ri rj rq := ⟨hG0, fun _ _ _ => rfl, fun _ _ _ _ _ => rfl, fun _ _ _ _ _ => rfl⟩
  have hl := lv_entry ([.ref this, .int a0]) (n := 2) (Nat.le_of_ble_eq_true rfl)
  rw [lg_entry_eq]
  generalize (lg_sl ([.ref this, .int a0]) ++ List.replicate (2 - (lg_sl ([.ref this, .int a0])).length) Slot.unset).toArray = ls at hl ⊢
  have hl : lv_has ls 2 [(0, .ref this), (1, .int a0)] := hl
  refine q_gen (fun Q hQ => ?_)
  have go : ∀ (H : Heap) (locs : List Loc) (ls : Array Slot), va_P D vwCl (pq_P t σ (I, J, ri, rj, rq)) H → va_D A (pq_P t σ (I, J, ri, rj, rq)) → va_S A s.heap H locs → lv_has ls 2 [(0, .ref this), (1, .int a0)] → W p l e ({ frames := 1, cells := 0, slots := 0, locals := 22 } : Room) s m (List.toArray ([.ref this, .int a0] : List Value)) below meth c H locs 0 0 Q (F0 m 0 ls []) := by
    intro H locs ls hP hD hS hl
    refine lv_iload_n hx hb dX11_isCell_0 rfl (lv_at hl 1 rfl) ?_
    refine lv_iconst (v := 0) hx hb dX11_isCell_1 (by decide) ?_
    refine lv_aload_n hx hb dX11_isCell_2 rfl (lv_at hl 0 rfl) ?_
    refine pg_f (v := .ref this_now) (C := RX11) (T := TX11) (N := 5) hx hb hts (tw_i inlX11) hown hK hP hL_this hK_this (by decide) rfl 0 (by decide) (hts _ (tw_c tw_16)) (pq_hv rfl hR_this_now) dX11_isCell_3 ?_
    refine pg_f (v := .ref this_now_land) (C := RX10) (T := TX10) (N := 13) hx hb hts (tw_i inlX10) hown hK hP hL_this_now hK_this_now (by decide) rfl 7 (by decide) (hts _ (tw_c tw_199)) (pq_hv rfl hR_this_now_land) dX11_isCell_6 ?_
    refine pg_f (v := .int (I 65 this_now_land)) (C := RX2) (T := TX2) (N := 20) hx hb hts (tw_i inlX2) hown hK hP hL_this_now_land hK_this_now_land (by decide) rfl 1 (by decide) (hts _ (tw_c tw_210)) rfl dX11_isCell_9 ?_
    have h_1 : rg (I 65 this_now_land) 0 40 := GX.rI hG 65 rfl
    have uh_1 := h_1.1
    have vh_1 := h_1.2
    refine lv_iconst (v := 1) hx hb dX11_isCell_12 (by decide) ?_
    refine lv_isub hx hb dX11_isCell_13 ?_
    refine lv_topi (fun x_2 ex_2 => ?_)
    have h_3 : rg x_2 (-1) 39 := rg_of_eq ex_2 (rg_sub h_1 (rg_k (1 : Int32) 1 rfl) (by decide))
    have uh_3 := h_3.1
    have vh_3 := h_3.2
    have tx_2 : (x_2).toInt = (I 65 this_now_land).toInt - 1 := by rw [ex_2]; exact i_sub_rg (a2 := (I 65 this_now_land).toInt) (b2 := 1) rfl rfl h_1 (rg_k (1 : Int32) 1 rfl) (by decide)
    refine pk_i (va_runS (As := [.int a0, .int 0, .int x_2]) (rest := []) ⟨hx, hb, hml, hown, hts⟩ (s_X11_between_v l D t σ I J ri rj rq H.size tg hSH hG.1 a0 (0 : Int32) x_2) (va_cwS 3 hts (tw_S tw_215 tw_216 tw_2 tw_217) rfl rfl rfl cd_yX11_between_3 ⟨Nat.le_of_ble_eq_true rfl, Nat.le_of_ble_eq_true rfl⟩) ⟨pq_blind, pq_pre hK hN hP hD⟩ rfl rfl hl.1 rfl (lv_room (Nat.le_of_ble_eq_true rfl)) dX11_isCell_14 ⟨Nat.le_of_ble_eq_true rfl, Nat.le_of_ble_eq_true rfl⟩) hD hS hA (fun x_4 σ1 μ1 H locs hw_5 hP hD hS => ?_)
    obtain ⟨hu_6, hr_8⟩ := hw_5
    obtain ⟨hu_6a, hu_6b⟩ := Prod.mk.inj hu_6
    rw [hu_6a, hu_6b] at hP hD
    have h_9 : rg x_4 0 1 := by rcases hr_8 with ⟨q, -⟩ | ⟨q, -⟩ <;> rw [q] <;> exact ⟨by decide, by decide⟩
    have uh_9 := h_9.1
    have vh_9 := h_9.2
    rcases hr_8 with ⟨e_13, f_10, f_11⟩ | ⟨e_13, f_12⟩
    · refine lv_tov 1 e_13 ?_
      have tc_14 : 0 ≤ (a0).toInt := Int32.le_iff_toInt_le.mp f_10
      have h_15 : rg a0 0 2147483647 := rg_le2 f_10 (rg_k (0 : Int32) 0 rfl) (rg_full _) (by decide)
      have uh_15 := h_15.1
      have vh_15 := h_15.2
      have tc_16 : (a0).toInt ≤ (x_2).toInt := Int32.le_iff_toInt_le.mp f_11
      have h_17 : rg a0 0 39 := rg_le1 f_11 h_15 h_3 (by decide)
      have uh_17 := h_17.1
      have vh_17 := h_17.2
      have h_18 : rg x_2 0 39 := rg_le2 f_11 h_15 h_3 (by decide)
      have uh_18 := h_18.1
      have vh_18 := h_18.2
      subst hQ
      exact W.zret (v := 1) hx hb hr (by decide) (fun t1 ht hW => ⟨⟨1, (σ, I, J, ri, rj, rq), rfl, ⟨rfl, (Or.inl ⟨rfl, (rg_w h_17 (by decide)), (by omega)⟩)⟩, by rw [ht]; exact hP, va_K.moved hW.alike hK, hD⟩, hS.F ht⟩) hS.2.2 dX11_isCell_17
    · refine lv_tov 0 e_13 ?_
      have zk_19 : (0 : Int32).toInt = 0 := rfl
      subst hQ
      exact W.zret (v := 0) hx hb hr (by decide) (fun t1 ht hW => ⟨⟨0, (σ, I, J, ri, rj, rq), rfl, ⟨rfl, (Or.inr ⟨rfl, (by omega)⟩)⟩, by rw [ht]; exact hP, va_K.moved hW.alike hK, hD⟩, hS.F ht⟩) hS.2.2 dX11_isCell_17
  exact go _ _ _ hP hD hS hl

set_option maxHeartbeats 4000000 in
set_option maxRecDepth 100000 in
theorem s_X11_isRise_w (l : Launch) (D : va_G) (t : pq_T) (σ : pq_S) (I : Nat → Nat → Int32) (J : Nat → Nat → Int64) (ri : Nat → Nat → Int32) (rj : Nat → Nat → Int64) (rq : Nat → Nat → Option Nat) (sz : Nat) (tg : Nat → Nat) (hSH : SH σ tg) (hG0 : GS tg σ I ri rq) (a0 : Int32) : MetI l yX11_isRise (wa yX11_isRise cX11_isRise 1 (some .boolean)) ({ frames := 1, cells := 0, slots := 0, locals := 22 }) [.int a0] D t σ (I, J, ri, rj, rq) sz 0 0 (fun (r : Int32) (u : pq_S × pq_M) => u = (σ, I, J, ri, rj, rq) ∧ ((r = 1 ∧ rg a0 0 2 ∧ (0 ≤ a0.toInt ∧ a0.toInt ≤ 2)) ∨ (r = 0 ∧ (¬ (0 ≤ a0.toInt ∧ a0.toInt ≤ 2))))) := by
  refine Met.ofW (cc := cX11_isRise) (maxL := 1) (ret := (some .boolean)) (by decide) rfl ?_
  intro p e s m args below meth c s₁ B hml hv
  obtain ⟨rfl, hsz, hP, hK, hD0, hN⟩ := hv
  have hx := B.exec
  have hb := B.bytes
  have hr := B.returns
  have hts := atoms_spec (ws := (wa yX11_isRise cX11_isRise 1 (some .boolean))) B.pre
  have hown : s.vm.findClass RX11 = some m.cls := findClass_of_methodNamed B.named
  have hlocks := B.notSynchronized
  subst hsz
  have hD : va_D (pq_B t σ (I, J, ri, rj, rq) s.heap.size) (pq_P t σ (I, J, ri, rj, rq)) := hD0.self
  generalize hAe : pq_B t σ (I, J, ri, rj, rq) s.heap.size = A at hD ⊢
  have hA : ∀ q : Nat, s.heap.size ≤ q → A q := fun q h => by rw [← hAe]; exact Or.inr h
  have hS : va_S A s.heap s.heap [] := va_S.rf
  have hG : GX [] tg σ I ri rj I ri rj rq := ⟨hG0, fun _ _ _ => rfl, fun _ _ _ _ _ => rfl, fun _ _ _ _ _ => rfl⟩
  have hl := lv_entry ([.int a0]) (n := 1) (Nat.le_of_ble_eq_true rfl)
  rw [lg_entry_eq]
  generalize (lg_sl ([.int a0]) ++ List.replicate (1 - (lg_sl ([.int a0])).length) Slot.unset).toArray = ls at hl ⊢
  have hl : lv_has ls 1 [(0, .int a0)] := hl
  refine q_gen (fun Q hQ => ?_)
  have go : ∀ (H : Heap) (locs : List Loc) (ls : Array Slot), va_P D vwCl (pq_P t σ (I, J, ri, rj, rq)) H → va_D A (pq_P t σ (I, J, ri, rj, rq)) → va_S A s.heap H locs → lv_has ls 1 [(0, .int a0)] → W p l e ({ frames := 1, cells := 0, slots := 0, locals := 22 } : Room) s m (List.toArray ([.int a0] : List Value)) below meth c H locs 0 0 Q (F0 m 0 ls []) := by
    intro H locs ls hP hD hS hl
    refine lv_iload_n hx hb dX11_isRise_0 rfl (lv_at hl 0 rfl) ?_
    refine lv_iconst (v := 0) hx hb dX11_isRise_1 (by decide) ?_
    refine lv_iconst (v := 2) hx hb dX11_isRise_2 (by decide) ?_
    refine pk_i (va_runS (As := [.int a0, .int 0, .int 2]) (rest := []) ⟨hx, hb, hml, hown, hts⟩ (s_X11_between_v l D t σ I J ri rj rq H.size tg hSH hG.1 a0 (0 : Int32) (2 : Int32)) (va_cwS 3 hts (tw_S tw_215 tw_216 tw_2 tw_217) rfl rfl rfl cd_yX11_between_3 ⟨Nat.le_of_ble_eq_true rfl, Nat.le_of_ble_eq_true rfl⟩) ⟨pq_blind, pq_pre hK hN hP hD⟩ rfl rfl hl.1 rfl (lv_room (Nat.le_of_ble_eq_true rfl)) dX11_isRise_3 ⟨Nat.le_of_ble_eq_true rfl, Nat.le_of_ble_eq_true rfl⟩) hD hS hA (fun x_1 σ1 μ1 H locs hw_2 hP hD hS => ?_)
    obtain ⟨hu_3, hr_5⟩ := hw_2
    obtain ⟨hu_3a, hu_3b⟩ := Prod.mk.inj hu_3
    rw [hu_3a, hu_3b] at hP hD
    have h_6 : rg x_1 0 1 := by rcases hr_5 with ⟨q, -⟩ | ⟨q, -⟩ <;> rw [q] <;> exact ⟨by decide, by decide⟩
    have uh_6 := h_6.1
    have vh_6 := h_6.2
    rcases hr_5 with ⟨e_10, f_7, f_8⟩ | ⟨e_10, f_9⟩
    · refine lv_tov 1 e_10 ?_
      have tc_11 : 0 ≤ (a0).toInt := Int32.le_iff_toInt_le.mp f_7
      have h_12 : rg a0 0 2147483647 := rg_le2 f_7 (rg_k (0 : Int32) 0 rfl) (rg_full _) (by decide)
      have uh_12 := h_12.1
      have vh_12 := h_12.2
      have tc_13 : (a0).toInt ≤ 2 := Int32.le_iff_toInt_le.mp f_8
      have h_14 : rg a0 0 2 := rg_le1 f_8 h_12 (rg_k (2 : Int32) 2 rfl) (by decide)
      have uh_14 := h_14.1
      have vh_14 := h_14.2
      subst hQ
      exact W.zret (v := 1) hx hb hr (by decide) (fun t1 ht hW => ⟨⟨1, (σ, I, J, ri, rj, rq), rfl, ⟨rfl, (Or.inl ⟨rfl, (rg_w h_14 (by decide)), (by omega)⟩)⟩, by rw [ht]; exact hP, va_K.moved hW.alike hK, hD⟩, hS.F ht⟩) hS.2.2 dX11_isRise_6
    · refine lv_tov 0 e_10 ?_
      have zk_15 : (0 : Int32).toInt = 0 := rfl
      have zk_16 : (2 : Int32).toInt = 2 := rfl
      subst hQ
      exact W.zret (v := 0) hx hb hr (by decide) (fun t1 ht hW => ⟨⟨0, (σ, I, J, ri, rj, rq), rfl, ⟨rfl, (Or.inr ⟨rfl, (by omega)⟩)⟩, by rw [ht]; exact hP, va_K.moved hW.alike hK, hD⟩, hS.F ht⟩) hS.2.2 dX11_isRise_6
  exact go _ _ _ hP hD hS hl

set_option maxHeartbeats 4000000 in
set_option maxRecDepth 100000 in
theorem s_X11_canGoBy_w (l : Launch) (D : va_G) (t : pq_T) (σ : pq_S) (I : Nat → Nat → Int32) (J : Nat → Nat → Int64) (ri : Nat → Nat → Int32) (rj : Nat → Nat → Int64) (rq : Nat → Nat → Option Nat) (sz : Nat) (tg : Nat → Nat) (hSH : SH σ tg) (hG0 : GS tg σ I ri rq) (this : Nat) (a0 : Int32) (a1 : Int32) (a2 : Int32) (hL_this : this ∈ σ.1) (hK_this : σ.2.1 this = 11) (h_a2 : rg a2 12 60) (this_now : Nat) (hR_this_now : σ.2.2.1 352 this = some this_now) (hL_this_now : this_now ∈ σ.1) (hK_this_now : σ.2.1 this_now = 10) : MetI l yX11_canGoBy (wa yX11_canGoBy cX11_canGoBy 4 (some .boolean)) ({ frames := 2, cells := 0, slots := 0, locals := 42 }) [.ref this, .int a0, .int a1, .int a2] D t σ (I, J, ri, rj, rq) sz 0 0 (fun (r : Int32) (u : pq_S × pq_M) => u = (σ, I, J, ri, rj, rq) ∧ ((r = 1 ∧ rg a0 0 2 ∧ rg a1 1 60 ∧ ((0 ≤ a0.toInt ∧ a0.toInt ≤ 2) ∧ (1 ≤ a1.toInt ∧ a1.toInt ≤ a2.toInt) ∧ (I 320 this_now).toInt + a1.toInt ≤ 600)) ∨ (r = 0 ∧ (¬ ((0 ≤ a0.toInt ∧ a0.toInt ≤ 2) ∧ (1 ≤ a1.toInt ∧ a1.toInt ≤ a2.toInt) ∧ (I 320 this_now).toInt + a1.toInt ≤ 600))))) := by
  refine Met.ofW (cc := cX11_canGoBy) (maxL := 4) (ret := (some .boolean)) (by decide) rfl ?_
  intro p e s m args below meth c s₁ B hml hv
  obtain ⟨rfl, hsz, hP, hK, hD0, hN⟩ := hv
  have hx := B.exec
  have hb := B.bytes
  have hr := B.returns
  have hts := atoms_spec (ws := (wa yX11_canGoBy cX11_canGoBy 4 (some .boolean))) B.pre
  have hown : s.vm.findClass RX11 = some m.cls := findClass_of_methodNamed B.named
  have hlocks := B.notSynchronized
  subst hsz
  have hD : va_D (pq_B t σ (I, J, ri, rj, rq) s.heap.size) (pq_P t σ (I, J, ri, rj, rq)) := hD0.self
  generalize hAe : pq_B t σ (I, J, ri, rj, rq) s.heap.size = A at hD ⊢
  have hA : ∀ q : Nat, s.heap.size ≤ q → A q := fun q h => by rw [← hAe]; exact Or.inr h
  have hS : va_S A s.heap s.heap [] := va_S.rf
  have hG : GX [] tg σ I ri rj I ri rj rq := ⟨hG0, fun _ _ _ => rfl, fun _ _ _ _ _ => rfl, fun _ _ _ _ _ => rfl⟩
  have hl := lv_entry ([.ref this, .int a0, .int a1, .int a2]) (n := 4) (Nat.le_of_ble_eq_true rfl)
  rw [lg_entry_eq]
  generalize (lg_sl ([.ref this, .int a0, .int a1, .int a2]) ++ List.replicate (4 - (lg_sl ([.ref this, .int a0, .int a1, .int a2])).length) Slot.unset).toArray = ls at hl ⊢
  have hl : lv_has ls 4 [(0, .ref this), (1, .int a0), (2, .int a1), (3, .int a2)] := hl
  refine q_gen (fun Q hQ => ?_)
  have go : ∀ (H : Heap) (locs : List Loc) (ls : Array Slot), va_P D vwCl (pq_P t σ (I, J, ri, rj, rq)) H → va_D A (pq_P t σ (I, J, ri, rj, rq)) → va_S A s.heap H locs → lv_has ls 4 [(0, .ref this), (1, .int a0), (2, .int a1), (3, .int a2)] → W p l e ({ frames := 2, cells := 0, slots := 0, locals := 42 } : Room) s m (List.toArray ([.ref this, .int a0, .int a1, .int a2] : List Value)) below meth c H locs 0 0 Q (F0 m 0 ls []) := by
    intro H locs ls hP hD hS hl
    refine lv_iload_n hx hb dX11_canGoBy_0 rfl (lv_at hl 1 rfl) ?_
    refine pk_i (va_runS (As := [.int a0]) (rest := []) ⟨hx, hb, hml, hown, hts⟩ (s_X11_isRise_w l D t σ I J ri rj rq H.size tg hSH hG.1 a0) (va_cwS 1 hts (tw_S tw_244 tw_245 tw_2 tw_246) rfl rfl rfl cd_yX11_isRise_1 ⟨Nat.le_of_ble_eq_true rfl, Nat.le_of_ble_eq_true rfl⟩) ⟨pq_blind, pq_pre hK hN hP hD⟩ rfl rfl hl.1 rfl (lv_room (Nat.le_of_ble_eq_true rfl)) dX11_canGoBy_1 ⟨Nat.le_of_ble_eq_true rfl, Nat.le_of_ble_eq_true rfl⟩) hD hS hA (fun x_1 σ1 μ1 H locs hw_2 hP hD hS => ?_)
    obtain ⟨hu_3, hr_5⟩ := hw_2
    obtain ⟨hu_3a, hu_3b⟩ := Prod.mk.inj hu_3
    rw [hu_3a, hu_3b] at hP hD
    have h_6 : rg x_1 0 1 := by rcases hr_5 with ⟨q, -⟩ | ⟨q, -⟩ <;> rw [q] <;> exact ⟨by decide, by decide⟩
    have uh_6 := h_6.1
    have vh_6 := h_6.2
    refine lv_if_eq (tgt := 35) hx hb dX11_canGoBy_4 (by decide) (fun c_7 => ?_) (fun c_7 => ?_)
    · have f_8 := (hr_5.resolve_left (fun q => absurd (q.1.symm.trans c_7) (by decide))).2
      have tc_9 : (x_1).toInt = 0 := congrArg Int32.toInt c_7
      have h_10 : rg x_1 0 0 := rg_and h_6 (rg_of_eq c_7 (rg_k (0 : Int32) 0 rfl)) (by decide)
      have uh_10 := h_10.1
      have vh_10 := h_10.2
      refine lv_iconst (v := 0) hx hb dX11_canGoBy_35 (by decide) ?_
      subst hQ
      exact W.zret (v := 0) hx hb hr (by decide) (fun t1 ht hW => ⟨⟨0, (σ, I, J, ri, rj, rq), rfl, ⟨rfl, (Or.inr ⟨rfl, (by omega)⟩)⟩, by rw [ht]; exact hP, va_K.moved hW.alike hK, hD⟩, hS.F ht⟩) hS.2.2 dX11_canGoBy_36
    · obtain ⟨f_11, f_12⟩ := (hr_5.resolve_right (fun q => c_7 q.1)).2
      have tc_13 : (x_1).toInt ≠ 0 := fun q => c_7 (Int32.toInt_inj.mp q)
      have h_14 : rg x_1 1 1 := rg_ne c_7 h_6 0 rfl (by decide)
      have uh_14 := h_14.1
      have vh_14 := h_14.2
      refine lv_iload_n hx hb dX11_canGoBy_7 rfl (lv_at hl 2 rfl) ?_
      refine lv_iconst (v := 1) hx hb dX11_canGoBy_8 (by decide) ?_
      refine lv_iload_n hx hb dX11_canGoBy_9 rfl (lv_at hl 3 rfl) ?_
      refine pk_i (va_runS (As := [.int a1, .int 1, .int a2]) (rest := []) ⟨hx, hb, hml, hown, hts⟩ (s_X11_between_v l D t σ I J ri rj rq H.size tg hSH hG.1 a1 (1 : Int32) a2) (va_cwS 3 hts (tw_S tw_215 tw_216 tw_2 tw_217) rfl rfl rfl cd_yX11_between_3 ⟨Nat.le_of_ble_eq_true rfl, Nat.le_of_ble_eq_true rfl⟩) ⟨pq_blind, pq_pre hK hN hP hD⟩ rfl rfl hl.1 rfl (lv_room (Nat.le_of_ble_eq_true rfl)) dX11_canGoBy_10 ⟨Nat.le_of_ble_eq_true rfl, Nat.le_of_ble_eq_true rfl⟩) hD hS hA (fun x_15 σ1 μ1 H locs hw_16 hP hD hS => ?_)
      obtain ⟨hu_17, hr_19⟩ := hw_16
      obtain ⟨hu_17a, hu_17b⟩ := Prod.mk.inj hu_17
      rw [hu_17a, hu_17b] at hP hD
      have h_20 : rg x_15 0 1 := by rcases hr_19 with ⟨q, -⟩ | ⟨q, -⟩ <;> rw [q] <;> exact ⟨by decide, by decide⟩
      have uh_20 := h_20.1
      have vh_20 := h_20.2
      refine lv_if_eq (tgt := 35) hx hb dX11_canGoBy_13 (by decide) (fun c_21 => ?_) (fun c_21 => ?_)
      · have f_22 := (hr_19.resolve_left (fun q => absurd (q.1.symm.trans c_21) (by decide))).2
        have zk_23 : (1 : Int32).toInt = 1 := rfl
        have tc_24 : (x_15).toInt = 0 := congrArg Int32.toInt c_21
        have h_25 : rg x_15 0 0 := rg_and h_20 (rg_of_eq c_21 (rg_k (0 : Int32) 0 rfl)) (by decide)
        have uh_25 := h_25.1
        have vh_25 := h_25.2
        refine lv_iconst (v := 0) hx hb dX11_canGoBy_35 (by decide) ?_
        subst hQ
        exact W.zret (v := 0) hx hb hr (by decide) (fun t1 ht hW => ⟨⟨0, (σ, I, J, ri, rj, rq), rfl, ⟨rfl, (Or.inr ⟨rfl, (by omega)⟩)⟩, by rw [ht]; exact hP, va_K.moved hW.alike hK, hD⟩, hS.F ht⟩) hS.2.2 dX11_canGoBy_36
      · obtain ⟨f_26, f_27⟩ := (hr_19.resolve_right (fun q => c_21 q.1)).2
        have tc_28 : 1 ≤ (a1).toInt := Int32.le_iff_toInt_le.mp f_26
        have h_29 : rg a1 1 2147483647 := rg_le2 f_26 (rg_k (1 : Int32) 1 rfl) (rg_full _) (by decide)
        have uh_29 := h_29.1
        have vh_29 := h_29.2
        have tc_30 : (a1).toInt ≤ (a2).toInt := Int32.le_iff_toInt_le.mp f_27
        have h_31 : rg a1 1 60 := rg_le1 f_27 h_29 h_a2 (by decide)
        have uh_31 := h_31.1
        have vh_31 := h_31.2
        have tc_32 : (x_15).toInt ≠ 0 := fun q => c_21 (Int32.toInt_inj.mp q)
        have h_33 : rg x_15 1 1 := rg_ne c_21 h_20 0 rfl (by decide)
        have uh_33 := h_33.1
        have vh_33 := h_33.2
        refine lv_aload_n hx hb dX11_canGoBy_16 rfl (lv_at hl 0 rfl) ?_
        refine pg_f (v := .ref this_now) (C := RX11) (T := TX11) (N := 5) hx hb hts (tw_i inlX11) hown hK hP hL_this hK_this (by decide) rfl 0 (by decide) (hts _ (tw_c tw_16)) (pq_hv rfl hR_this_now) dX11_canGoBy_17 ?_
        refine pg_f (v := .int (I 320 this_now)) (C := RX10) (T := TX10) (N := 13) hx hb hts (tw_i inlX10) hown hK hP hL_this_now hK_this_now (by decide) rfl 0 (by decide) (hts _ (tw_c tw_209)) rfl dX11_canGoBy_20 ?_
        have h_34 : rg (I 320 this_now) 0 600 := GX.rI hG 320 rfl
        have uh_34 := h_34.1
        have vh_34 := h_34.2
        refine lv_iload_n hx hb dX11_canGoBy_23 rfl (lv_at hl 2 rfl) ?_
        refine lv_iadd hx hb dX11_canGoBy_24 ?_
        refine lv_topi (fun x_35 ex_35 => ?_)
        have h_36 : rg x_35 1 660 := rg_of_eq ex_35 (rg_add h_34 h_31 (by decide))
        have uh_36 := h_36.1
        have vh_36 := h_36.2
        have tx_35 : (x_35).toInt = (I 320 this_now).toInt + (a1).toInt := by rw [ex_35]; exact i_add_rg (a2 := (I 320 this_now).toInt) (b2 := (a1).toInt) rfl rfl h_34 h_31 (by decide)
        refine lv_sipush (v := 600) hx hb dX11_canGoBy_25 (by decide) ?_
        refine lv_icmp_gt (tgt := 35) hx hb dX11_canGoBy_28 (by decide) (fun c_37 => ?_) (fun c_37 => ?_)
        · have tc_38 : 600 < (x_35).toInt := Int32.lt_iff_toInt_lt.mp c_37
          have h_39 : rg x_35 601 660 := rg_lt2 c_37 (rg_k (600 : Int32) 600 rfl) h_36 (by decide)
          have uh_39 := h_39.1
          have vh_39 := h_39.2
          refine lv_iconst (v := 0) hx hb dX11_canGoBy_35 (by decide) ?_
          subst hQ
          exact W.zret (v := 0) hx hb hr (by decide) (fun t1 ht hW => ⟨⟨0, (σ, I, J, ri, rj, rq), rfl, ⟨rfl, (Or.inr ⟨rfl, (by omega)⟩)⟩, by rw [ht]; exact hP, va_K.moved hW.alike hK, hD⟩, hS.F ht⟩) hS.2.2 dX11_canGoBy_36
        · have tc_40 : (x_35).toInt ≤ 600 := Int32.le_iff_toInt_le.mp (nlt c_37)
          have h_41 : rg x_35 1 600 := rg_le1 (nlt c_37) h_36 (rg_k (600 : Int32) 600 rfl) (by decide)
          have uh_41 := h_41.1
          have vh_41 := h_41.2
          refine lv_iconst (v := 1) hx hb dX11_canGoBy_31 (by decide) ?_
          refine lv_goto (tgt := 36) hx hb dX11_canGoBy_32 (by decide) ?_
          subst hQ
          exact W.zret (v := 1) hx hb hr (by decide) (fun t1 ht hW => ⟨⟨1, (σ, I, J, ri, rj, rq), rfl, ⟨rfl, (Or.inl ⟨rfl, (rg_w f_11 (by decide)), (rg_w h_31 (by decide)), (by omega)⟩)⟩, by rw [ht]; exact hP, va_K.moved hW.alike hK, hD⟩, hS.F ht⟩) hS.2.2 dX11_canGoBy_36
  exact go _ _ _ hP hD hS hl

set_option maxHeartbeats 4000000 in
set_option maxRecDepth 100000 in
theorem s_X11_sinks_w (l : Launch) (D : va_G) (t : pq_T) (σ : pq_S) (I : Nat → Nat → Int32) (J : Nat → Nat → Int64) (ri : Nat → Nat → Int32) (rj : Nat → Nat → Int64) (rq : Nat → Nat → Option Nat) (sz : Nat) (tg : Nat → Nat) (hSH : SH σ tg) (hG0 : GS tg σ I ri rq) (this : Nat) (a0 : Int32) (a1 : Int32) (a2 : Int32) (hL_this : this ∈ σ.1) (hK_this : σ.2.1 this = 11) (this_trial : Nat) (hR_this_trial : σ.2.2.1 354 this = some this_trial) (hL_this_trial : this_trial ∈ σ.1) (hK_this_trial : σ.2.1 this_trial = 10) : MetI l yX11_sinks (wa yX11_sinks cX11_sinks 5 (some .int)) ({ frames := 5, cells := 0, slots := 0, locals := 144 }) [.ref this, .int a0, .int a1, .int a2] D t σ (I, J, ri, rj, rq) sz 0 0 (fun (r : Int32) (u : pq_S × pq_M) => ∃ I' : Nat → Nat → Int32, ∃ J' : Nat → Nat → Int64, ∃ ri' : Nat → Nat → Int32, ∃ rj' : Nat → Nat → Int64, ∃ rq' : Nat → Nat → Option Nat, u = (σ, I', J', ri', rj', rq') ∧ GX [320, 224, 1225, 1226, 1227, 1228, 1229, 1230, 1231, 1232, 1233, 234, 235, 236, 64, 65, 1069, 1070, 1073, 1074, 1075, 1288, 1079, 0, 1005, 10, 96, 98, 32, 1033, 1034] tg σ I ri rj I' ri' rj' rq' ∧ (FO σ this_trial I I') ∧ (FR0 σ tg this_trial ri ri') ∧ rg r (-1) 600) := by
  refine Met.ofW (cc := cX11_sinks) (maxL := 5) (ret := (some .int)) (by decide) rfl ?_
  intro p e s m args below meth c s₁ B hml hv
  obtain ⟨rfl, hsz, hP, hK, hD0, hN⟩ := hv
  have hx := B.exec
  have hb := B.bytes
  have hr := B.returns
  have hts := atoms_spec (ws := (wa yX11_sinks cX11_sinks 5 (some .int))) B.pre
  have hown : s.vm.findClass RX11 = some m.cls := findClass_of_methodNamed B.named
  have hlocks := B.notSynchronized
  subst hsz
  have hD : va_D (pq_B t σ (I, J, ri, rj, rq) s.heap.size) (pq_P t σ (I, J, ri, rj, rq)) := hD0.self
  generalize hAe : pq_B t σ (I, J, ri, rj, rq) s.heap.size = A at hD ⊢
  have hA : ∀ q : Nat, s.heap.size ≤ q → A q := fun q h => by rw [← hAe]; exact Or.inr h
  have hS : va_S A s.heap s.heap [] := va_S.rf
  have hG : GX [320, 224, 1225, 1226, 1227, 1228, 1229, 1230, 1231, 1232, 1233, 234, 235, 236, 64, 65, 1069, 1070, 1073, 1074, 1075, 1288, 1079, 0, 1005, 10, 96, 98, 32, 1033, 1034] tg σ I ri rj I ri rj rq := ⟨hG0, fun _ _ _ => rfl, fun _ _ _ _ _ => rfl, fun _ _ _ _ _ => rfl⟩
  have hl := lv_entry ([.ref this, .int a0, .int a1, .int a2]) (n := 5) (Nat.le_of_ble_eq_true rfl)
  rw [lg_entry_eq]
  generalize (lg_sl ([.ref this, .int a0, .int a1, .int a2]) ++ List.replicate (5 - (lg_sl ([.ref this, .int a0, .int a1, .int a2])).length) Slot.unset).toArray = ls at hl ⊢
  have hl : lv_has ls 5 [(0, .ref this), (1, .int a0), (2, .int a1), (3, .int a2)] := hl
  refine q_gen (fun Q hQ => ?_)
  have go : ∀ (H : Heap) (locs : List Loc) (ls : Array Slot), va_P D vwCl (pq_P t σ (I, J, ri, rj, rq)) H → va_D A (pq_P t σ (I, J, ri, rj, rq)) → va_S A s.heap H locs → lv_has ls 5 [(0, .ref this), (1, .int a0), (2, .int a1), (3, .int a2)] → W p l e ({ frames := 5, cells := 0, slots := 0, locals := 144 } : Room) s m (List.toArray ([.ref this, .int a0, .int a1, .int a2] : List Value)) below meth c H locs 0 0 Q (F0 m 0 ls []) := by
    intro H locs ls hP hD hS hl
    obtain ⟨w_1, hR_w_1, hL_w_1, hK_w_1⟩ := sh_o hSH 352 (ci := 11) (kd := 10) rfl hL_this hK_this
    refine lv_aload_n hx hb dX11_sinks_0 rfl (lv_at hl 0 rfl) ?_
    refine lv_iload_n hx hb dX11_sinks_1 rfl (lv_at hl 1 rfl) ?_
    obtain ⟨w_2, hR_w_2, hL_w_2, hK_w_2⟩ := sh_o hSH 327 (ci := 10) (kd := 2) rfl hL_w_1 hK_w_1
    refine pk_i (va_runV (As := [.int a0]) (rest := []) ⟨hx, hb, hml, hown, hts⟩ (s_X11_isCell_w l D t σ I J ri rj rq H.size tg hSH hG.1 this a0 hL_this hK_this w_1 hR_w_1 hL_w_1 hK_w_1 w_2 hR_w_2 hL_w_2 hK_w_2) (cwV 1 hts (tw_V tw_332 tw_333 tw_334 tw_2 tw_335) rfl rfl rfl cv_yX11_isCell_1 ⟨Nat.le_of_ble_eq_true rfl, Nat.le_of_ble_eq_true rfl⟩) ⟨pq_blind, pq_recv hK hP hL_this hK_this (by decide) rfl, pq_pre hK hN hP hD⟩ rfl rfl hl.1 rfl (lv_room (Nat.le_of_ble_eq_true rfl)) dX11_sinks_2 ⟨Nat.le_of_ble_eq_true rfl, Nat.le_of_ble_eq_true rfl⟩) hD hS hA (fun x_3 σ1 μ1 H locs hw_4 hP hD hS => ?_)
    obtain ⟨hu_5, hr_7⟩ := hw_4
    obtain ⟨hu_5a, hu_5b⟩ := Prod.mk.inj hu_5
    rw [hu_5a, hu_5b] at hP hD
    have h_8 : rg x_3 0 1 := by rcases hr_7 with ⟨q, -⟩ | ⟨q, -⟩ <;> rw [q] <;> exact ⟨by decide, by decide⟩
    have uh_8 := h_8.1
    have vh_8 := h_8.2
    refine lv_if_eq (tgt := 19) hx hb dX11_sinks_5 (by decide) (fun c_9 => ?_) (fun c_9 => ?_)
    · have f_10 := (hr_7.resolve_left (fun q => absurd (q.1.symm.trans c_9) (by decide))).2
      have tc_11 : (x_3).toInt = 0 := congrArg Int32.toInt c_9
      have h_12 : rg x_3 0 0 := rg_and h_8 (rg_of_eq c_9 (rg_k (0 : Int32) 0 rfl)) (by decide)
      have uh_12 := h_12.1
      have vh_12 := h_12.2
      refine lv_iconst (v := (-1)) hx hb dX11_sinks_19 (by decide) ?_
      subst hQ
      exact W.iret (v := (-1)) hx hb hr (fun t1 ht hW => ⟨⟨(-1), (σ, I, J, ri, rj, rq), rfl, ⟨I, J, ri, rj, rq, rfl, hG, fo_rf, fr_rf, (rg_w (rg_k (-1 : Int32) (-1) rfl) (by decide))⟩, by rw [ht]; exact hP, va_K.moved hW.alike hK, hD⟩, hS.F ht⟩) hS.2.2 dX11_sinks_20
    · obtain ⟨f_13, f_14⟩ := (hr_7.resolve_right (fun q => c_9 q.1)).2
      have tc_15 : (x_3).toInt ≠ 0 := fun q => c_9 (Int32.toInt_inj.mp q)
      have h_16 : rg x_3 1 1 := rg_ne c_9 h_8 0 rfl (by decide)
      have uh_16 := h_16.1
      have vh_16 := h_16.2
      refine lv_aload_n hx hb dX11_sinks_8 rfl (lv_at hl 0 rfl) ?_
      refine lv_iload_n hx hb dX11_sinks_9 rfl (lv_at hl 2 rfl) ?_
      refine lv_iload_n hx hb dX11_sinks_10 rfl (lv_at hl 3 rfl) ?_
      refine lv_bipush (v := 60) hx hb dX11_sinks_11 (by decide) ?_
      refine pk_i (va_runV (As := [.int a1, .int a2, .int 60]) (rest := []) ⟨hx, hb, hml, hown, hts⟩ (s_X11_canGoBy_w l D t σ I J ri rj rq H.size tg hSH hG.1 this a1 a2 (60 : Int32) hL_this hK_this (rg_w (rg_k (60 : Int32) 60 rfl) (by decide)) w_1 hR_w_1 hL_w_1 hK_w_1) (cwV 3 hts (tw_V tw_1035 tw_1036 tw_1037 tw_2 tw_1038) rfl rfl rfl cv_yX11_canGoBy_3 ⟨Nat.le_of_ble_eq_true rfl, Nat.le_of_ble_eq_true rfl⟩) ⟨pq_blind, pq_recv hK hP hL_this hK_this (by decide) rfl, pq_pre hK hN hP hD⟩ rfl rfl hl.1 rfl (lv_room (Nat.le_of_ble_eq_true rfl)) dX11_sinks_13 ⟨Nat.le_of_ble_eq_true rfl, Nat.le_of_ble_eq_true rfl⟩) hD hS hA (fun x_17 σ1 μ1 H locs hw_18 hP hD hS => ?_)
      obtain ⟨hu_19, hr_21⟩ := hw_18
      obtain ⟨hu_19a, hu_19b⟩ := Prod.mk.inj hu_19
      rw [hu_19a, hu_19b] at hP hD
      have h_22 : rg x_17 0 1 := by rcases hr_21 with ⟨q, -⟩ | ⟨q, -⟩ <;> rw [q] <;> exact ⟨by decide, by decide⟩
      have uh_22 := h_22.1
      have vh_22 := h_22.2
      refine lv_if_ne (tgt := 21) hx hb dX11_sinks_16 (by decide) (fun c_23 => ?_) (fun c_23 => ?_)
      · obtain ⟨f_24, f_25, f_26⟩ := (hr_21.resolve_right (fun q => c_23 q.1)).2
        have zk_27 : (60 : Int32).toInt = 60 := rfl
        have tc_28 : (x_17).toInt ≠ 0 := fun q => c_23 (Int32.toInt_inj.mp q)
        have h_29 : rg x_17 1 1 := rg_ne c_23 h_22 0 rfl (by decide)
        have uh_29 := h_29.1
        have vh_29 := h_29.2
        refine lv_aload_n hx hb dX11_sinks_21 rfl (lv_at hl 0 rfl) ?_
        refine pg_f (v := .ref this_trial) (C := RX11) (T := TX11) (N := 5) hx hb hts (tw_i inlX11) hown hK hP hL_this hK_this (by decide) rfl 2 (by decide) (hts _ (tw_c tw_18)) (pq_hv rfl hR_this_trial) dX11_sinks_22 ?_
        refine lv_aload_n hx hb dX11_sinks_25 rfl (lv_at hl 0 rfl) ?_
        refine pg_f (v := .ref w_1) (C := RX11) (T := TX11) (N := 5) hx hb hts (tw_i inlX11) hown hK hP hL_this hK_this (by decide) rfl 0 (by decide) (hts _ (tw_c tw_16)) (pq_hv rfl hR_w_1) dX11_sinks_26 ?_
        refine pk_v (va_runV (As := [.ref w_1]) (rest := []) ⟨hx, hb, hml, hown, hts⟩ (s_X10_copyFrom_w l D t σ I J ri rj rq H.size tg hSH hG.1 this_trial w_1 hL_this_trial hK_this_trial hL_w_1 hK_w_1) (cwV 1 hts (tw_V tw_1362 tw_1363 tw_1364 tw_15 tw_1365) rfl rfl rfl cv_yX10_copyFrom_1 ⟨Nat.le_of_ble_eq_true rfl, Nat.le_of_ble_eq_true rfl⟩) ⟨pq_blind, pq_recv hK hP hL_this_trial hK_this_trial (by decide) rfl, pq_pre hK hN hP hD⟩ rfl rfl hl.1 rfl (lv_room (Nat.le_of_ble_eq_true rfl)) dX11_sinks_29 ⟨Nat.le_of_ble_eq_true rfl, Nat.le_of_ble_eq_true rfl⟩) hD hS hA (fun σ1 μ1 H locs hw_31 hP hD hS => ?_)
        obtain ⟨I_32, J_33, ri_34, rj_35, rq_36, hu_37, hg_38, hp_40, hp_41, hp_42⟩ := hw_31
        obtain ⟨hu_37a, hu_37b⟩ := Prod.mk.inj hu_37
        rw [hu_37a, hu_37b] at hP hD
        have tt_43 : (I_32 320 this_trial).toInt = (I 320 w_1).toInt := congrArg Int32.toInt hp_40
        have hG := GX.tr hG hg_38 (by decide)
        refine lv_iconst (v := 0) hx hb dX11_sinks_32 (by decide) ?_
        refine lv_istore (lv' := [(4, .int 0), (0, .ref this), (1, .int a0), (2, .int a1), (3, .int a2)]) hx hb dX11_sinks_33 hl (by decide) rfl (fun ls hl => ?_)
        have L_711 : ∀ (n_710 : Nat) (x_664 : Int32) (I_665 : Nat → Nat → Int32) (J_666 : Nat → Nat → Int64) (ri_667 : Nat → Nat → Int32) (rj_668 : Nat → Nat → Int64) (H : Heap) (locs : List Loc) (ls : Array Slot), rg x_664 0 60 → ((I_665 320 this_trial).toInt = (I 320 w_1).toInt + (x_664).toInt) → (FO σ this_trial I I_665) → (FR0 σ tg this_trial ri ri_667) → (60 - (x_664).toInt).toNat < n_710 → GX [320, 224, 1225, 1226, 1227, 1228, 1229, 1230, 1231, 1232, 1233, 234, 235, 236, 64, 65, 1069, 1070, 1073, 1074, 1075, 1288, 1079, 0, 1005, 10, 96, 98, 32, 1033, 1034] tg σ I ri rj I_665 ri_667 rj_668 rq_36 → va_P D vwCl (pq_P t σ (I_665, J_666, ri_667, rj_668, rq_36)) H → va_D A (pq_P t σ (I_665, J_666, ri_667, rj_668, rq_36)) → va_S A s.heap H locs → lv_has ls 5 [(0, .ref this), (1, .int a0), (2, .int a1), (3, .int a2), (4, .int x_664)] → W p l e ({ frames := 5, cells := 0, slots := 0, locals := 144 } : Room) s m (List.toArray ([.ref this, .int a0, .int a1, .int a2] : List Value)) below meth c H locs 0 0 Q (F0 m 35 ls []) := by
          intro n_710
          induction n_710 with
          | zero => intro x_664 I_665 J_666 ri_667 rj_668 H locs ls h_717 hrel_718 hrel_719 hrel_720 hm_709 hG hP hD hS hl; exact absurd hm_709 (Nat.not_lt_zero _)
          | succ n_710 ih_712 =>
            intro x_664 I_665 J_666 ri_667 rj_668 H locs ls h_717 hrel_718 hrel_719 hrel_720 hm_709 hG hP hD hS hl
            have uh_717 := h_717.1
            have vh_717 := h_717.2
            refine lv_iload hx hb dX11_sinks_35 (lv_at hl 4 rfl) ?_
            refine lv_iload_n hx hb dX11_sinks_37 rfl (lv_at hl 3 rfl) ?_
            refine lv_icmp_ge (tgt := 90) hx hb dX11_sinks_38 (by decide) (fun c_721 => ?_) (fun c_721 => ?_)
            · have tc_722 : (a2).toInt ≤ (x_664).toInt := Int32.le_iff_toInt_le.mp c_721
              have h_723 : rg x_664 1 60 := rg_le2 c_721 f_25 h_717 (by decide)
              have uh_723 := h_723.1
              have vh_723 := h_723.2
              refine lv_iconst (v := (-1)) hx hb dX11_sinks_90 (by decide) ?_
              subst hQ
              exact W.iret (v := (-1)) hx hb hr (fun t1 ht hW => ⟨⟨(-1), (σ, I_665, J_666, ri_667, rj_668, rq_36), rfl, ⟨I_665, J_666, ri_667, rj_668, rq_36, rfl, hG, hrel_719, hrel_720, (rg_w (rg_k (-1 : Int32) (-1) rfl) (by decide))⟩, by rw [ht]; exact hP, va_K.moved hW.alike hK, hD⟩, hS.F ht⟩) hS.2.2 dX11_sinks_91
            · have tc_724 : (x_664).toInt < (a2).toInt := Int32.lt_iff_toInt_lt.mp (nle c_721)
              have h_725 : rg x_664 0 59 := rg_lt1 (nle c_721) h_717 f_25 (by decide)
              have uh_725 := h_725.1
              have vh_725 := h_725.2
              refine lv_aload_n hx hb dX11_sinks_41 rfl (lv_at hl 0 rfl) ?_
              refine pg_f (v := .ref this_trial) (C := RX11) (T := TX11) (N := 5) hx hb hts (tw_i inlX11) hown hK hP hL_this hK_this (by decide) rfl 2 (by decide) (hts _ (tw_c tw_18)) (pq_hv rfl hR_this_trial) dX11_sinks_42 ?_
              refine lv_iload_n hx hb dX11_sinks_45 rfl (lv_at hl 2 rfl) ?_
              refine pk_v (va_runV (As := [.int a1]) (rest := []) ⟨hx, hb, hml, hown, hts⟩ (s_X10_nature l D t σ I_665 J_666 ri_667 rj_668 rq_36 H.size tg hSH hG.1 this_trial a1 hL_this_trial hK_this_trial) (cwV 1 hts (tw_V tw_1395 tw_1048 tw_1049 tw_15 tw_1050) rfl rfl rfl cv_yX10_nature_1 ⟨Nat.le_of_ble_eq_true rfl, Nat.le_of_ble_eq_true rfl⟩) ⟨pq_blind, pq_recv hK hP hL_this_trial hK_this_trial (by decide) rfl, pq_pre hK hN hP hD⟩ rfl rfl hl.1 rfl (lv_room (Nat.le_of_ble_eq_true rfl)) dX11_sinks_46 ⟨Nat.le_of_ble_eq_true rfl, Nat.le_of_ble_eq_true rfl⟩) hD hS hA (fun σ1 μ1 H locs hw_727 hP hD hS => ?_)
              obtain ⟨I_728, J_729, ri_730, rj_731, hu_732, hg_733⟩ := hw_727
              obtain ⟨hu_732a, hu_732b⟩ := Prod.mk.inj hu_732
              rw [hu_732a, hu_732b] at hP hD
              have hG := GX.tr hG hg_733 (by decide)
              have tt_735 : (I_728 320 this_trial).toInt = (I_665 320 this_trial).toInt := by rw [hg_733.2.1 320 (by decide) (by decide)]
              refine lv_aload_n hx hb dX11_sinks_49 rfl (lv_at hl 0 rfl) ?_
              refine pg_f (v := .ref this_trial) (C := RX11) (T := TX11) (N := 5) hx hb hts (tw_i inlX11) hown hK hP hL_this hK_this (by decide) rfl 2 (by decide) (hts _ (tw_c tw_18)) (pq_hv rfl hR_this_trial) dX11_sinks_50 ?_
              obtain ⟨w_736, hR_w_736, hL_w_736, hK_w_736⟩ := sh_o hSH 327 (ci := 10) (kd := 2) rfl hL_this_trial hK_this_trial
              refine pg_f (v := .ref w_736) (C := RX10) (T := TX10) (N := 13) hx hb hts (tw_i inlX10) hown hK hP hL_this_trial hK_this_trial (by decide) rfl 7 (by decide) (hts _ (tw_c tw_199)) (pq_hv rfl hR_w_736) dX11_sinks_53 ?_
              refine lv_iload_n hx hb dX11_sinks_56 rfl (lv_at hl 1 rfl) ?_
              refine pk_i (va_runV (As := [.int a0]) (rest := []) ⟨hx, hb, hml, hown, hts⟩ (s_X2_isDry l D t σ I_728 J_729 ri_730 rj_731 rq_36 H.size tg hSH hG.1 w_736 a0 hL_w_736 hK_w_736) (cwV 1 hts (tw_V tw_1396 tw_555 tw_556 tw_41 tw_557) rfl rfl rfl cv_yX2_isDry_1 ⟨Nat.le_of_ble_eq_true rfl, Nat.le_of_ble_eq_true rfl⟩) ⟨pq_blind, pq_recv hK hP hL_w_736 hK_w_736 (by decide) rfl, pq_pre hK hN hP hD⟩ rfl rfl hl.1 rfl (lv_room (Nat.le_of_ble_eq_true rfl)) dX11_sinks_57 ⟨Nat.le_of_ble_eq_true rfl, Nat.le_of_ble_eq_true rfl⟩) hD hS hA (fun x_737 σ1 μ1 H locs hw_738 hP hD hS => ?_)
              obtain ⟨hu_739, hr_741⟩ := hw_738
              obtain ⟨hu_739a, hu_739b⟩ := Prod.mk.inj hu_739
              rw [hu_739a, hu_739b] at hP hD
              have h_742 : rg x_737 0 1 := by rcases hr_741 with ⟨q, -⟩ | ⟨q, -⟩ <;> rw [q] <;> exact ⟨by decide, by decide⟩
              have uh_742 := h_742.1
              have vh_742 := h_742.2
              refine lv_if_ne (tgt := 71) hx hb dX11_sinks_60 (by decide) (fun c_743 => ?_) (fun c_743 => ?_)
              · have tc_744 : (x_737).toInt ≠ 0 := fun q => c_743 (Int32.toInt_inj.mp q)
                have h_745 : rg x_737 1 1 := rg_ne c_743 h_742 0 rfl (by decide)
                have uh_745 := h_745.1
                have vh_745 := h_745.2
                refine lv_aload_n hx hb dX11_sinks_71 rfl (lv_at hl 0 rfl) ?_
                refine pg_f (v := .ref this_trial) (C := RX11) (T := TX11) (N := 5) hx hb hts (tw_i inlX11) hown hK hP hL_this hK_this (by decide) rfl 2 (by decide) (hts _ (tw_c tw_18)) (pq_hv rfl hR_this_trial) dX11_sinks_72 ?_
                refine lv_dup hx hb dX11_sinks_75 rfl ?_
                refine pg_f (v := .int (I_728 320 this_trial)) (C := RX10) (T := TX10) (N := 13) hx hb hts (tw_i inlX10) hown hK hP hL_this_trial hK_this_trial (by decide) rfl 0 (by decide) (hts _ (tw_c tw_209)) rfl dX11_sinks_76 ?_
                have h_746 : rg (I_728 320 this_trial) 0 600 := GX.rI hG 320 rfl
                have uh_746 := h_746.1
                have vh_746 := h_746.2
                refine lv_iconst (v := 1) hx hb dX11_sinks_79 (by decide) ?_
                refine lv_iadd hx hb dX11_sinks_80 ?_
                refine lv_topi (fun x_747 ex_747 => ?_)
                have h_748 : rg x_747 1 601 := rg_of_eq ex_747 (rg_add h_746 (rg_k (1 : Int32) 1 rfl) (by decide))
                have uh_748 := h_748.1
                have vh_748 := h_748.2
                have tx_747 : (x_747).toInt = (I_728 320 this_trial).toInt + 1 := by rw [ex_747]; exact i_add_rg (a2 := (I_728 320 this_trial).toInt) (b2 := 1) rfl rfl h_746 (rg_k (1 : Int32) 1 rfl) (by decide)
                refine pp_i (v := x_747) (ty := .int) (C := RX10) (T := TX10) (N := 13) hx hb hts (tw_i inlX10) tyX10 tyX10_ok nmX10 hown hK hP hD hS hL_this_trial hK_this_trial (by decide) rfl 0 320 (by decide) (hts _ (tw_c tw_209)) rfl (tyX10_ok 0 (by decide)) rfl rfl (Nat.le_of_ble_eq_true rfl) (ps_320 _ _ _ _ _) dX11_sinks_81 (fun I_749 H locs eI_749 hP hD hS => ?_)
                have h_750 : rg x_747 1 600 := ⟨by omega, by omega⟩
                have uh_750 := h_750.1
                have vh_750 := h_750.2
                have hG := GX.wI hG 320 rfl eI_749 (rg_w h_750 (by decide)) (by decide)
                have tt_751 : (I_749 320 this_trial).toInt = (x_747).toInt := by rw [eI_749, pq_us]
                obtain ⟨x_752, ex_752⟩ : ∃ y : Int32, y = x_664 + Int32.ofInt 1 := ⟨_, rfl⟩
                have h_753 : rg x_752 1 60 := rg_of_eq ex_752 (rg_add h_725 (rg_k (Int32.ofInt 1) 1 rfl) (by decide))
                have uh_753 := h_753.1
                have vh_753 := h_753.2
                have tx_752 : (x_752).toInt = (x_664).toInt + 1 := by rw [ex_752]; exact i_add_rg (a2 := (x_664).toInt) (b2 := 1) rfl rfl h_725 (rg_k (Int32.ofInt 1) 1 rfl) (by decide)
                refine lv_iinc (v := x_752) (lv' := [(4, .int x_752), (0, .ref this), (1, .int a0), (2, .int a1), (3, .int a2)]) hx hb dX11_sinks_84 hl (k := 4) rfl ex_752.symm (by decide) rfl (fun ls hl => ?_)
                refine lv_goto (tgt := 35) hx hb dX11_sinks_87 (by decide) ?_
                exact ih_712 x_752 I_749 J_729 ri_730 rj_731 _ _ _ (rg_w h_753 (by decide)) (by omega) (fo_t (fo_t hrel_719 (fo_c hg_733 (by decide))) (fo_p eI_749)) (fr_tt hrel_720 (fr_c hg_733 (by decide))) (ms_up 1 hm_709 ex_752 rfl (by decide) h_725 (by decide) (by decide)) hG hP hD hS (lv_sub hl [1, 2, 3, 4, 0] rfl)
              · have tc_754 : (x_737).toInt = 0 := congrArg Int32.toInt c_743
                have h_755 : rg x_737 0 0 := rg_and h_742 (rg_of_eq c_743 (rg_k (0 : Int32) 0 rfl)) (by decide)
                have uh_755 := h_755.1
                have vh_755 := h_755.2
                refine lv_aload_n hx hb dX11_sinks_63 rfl (lv_at hl 0 rfl) ?_
                refine pg_f (v := .ref this_trial) (C := RX11) (T := TX11) (N := 5) hx hb hts (tw_i inlX11) hown hK hP hL_this hK_this (by decide) rfl 2 (by decide) (hts _ (tw_c tw_18)) (pq_hv rfl hR_this_trial) dX11_sinks_64 ?_
                refine pg_f (v := .int (I_728 320 this_trial)) (C := RX10) (T := TX10) (N := 13) hx hb hts (tw_i inlX10) hown hK hP hL_this_trial hK_this_trial (by decide) rfl 0 (by decide) (hts _ (tw_c tw_209)) rfl dX11_sinks_67 ?_
                have h_756 : rg (I_728 320 this_trial) 0 600 := GX.rI hG 320 rfl
                have uh_756 := h_756.1
                have vh_756 := h_756.2
                subst hQ
                exact W.iret (v := (I_728 320 this_trial)) hx hb hr (fun t1 ht hW => ⟨⟨(I_728 320 this_trial), (σ, I_728, J_729, ri_730, rj_731, rq_36), rfl, ⟨I_728, J_729, ri_730, rj_731, rq_36, rfl, hG, (fo_t hrel_719 (fo_c hg_733 (by decide))), (fr_tt hrel_720 (fr_c hg_733 (by decide))), (rg_w h_756 (by decide))⟩, by rw [ht]; exact hP, va_K.moved hW.alike hK, hD⟩, hS.F ht⟩) hS.2.2 dX11_sinks_70
        exact L_711 _ (0 : Int32) I_32 J_33 ri_34 rj_35 _ _ _ (rg_w (rg_k (0 : Int32) 0 rfl) (by decide)) (by have k0 : (0 : Int32).toInt = 0 := rfl; omega) (fo_t fo_rf (fo_u hp_41)) (fr_tt fr_rf (fr_u hp_42)) (Nat.lt_succ_self _) hG hP hD hS (lv_sub hl [1, 2, 3, 4, 0] rfl)
      · have f_757 := (hr_21.resolve_left (fun q => absurd (q.1.symm.trans c_23) (by decide))).2
        have zk_758 : (60 : Int32).toInt = 60 := rfl
        have tc_759 : (x_17).toInt = 0 := congrArg Int32.toInt c_23
        have h_760 : rg x_17 0 0 := rg_and h_22 (rg_of_eq c_23 (rg_k (0 : Int32) 0 rfl)) (by decide)
        have uh_760 := h_760.1
        have vh_760 := h_760.2
        refine lv_iconst (v := (-1)) hx hb dX11_sinks_19 (by decide) ?_
        subst hQ
        exact W.iret (v := (-1)) hx hb hr (fun t1 ht hW => ⟨⟨(-1), (σ, I, J, ri, rj, rq), rfl, ⟨I, J, ri, rj, rq, rfl, hG, fo_rf, fr_rf, (rg_w (rg_k (-1 : Int32) (-1) rfl) (by decide))⟩, by rw [ht]; exact hP, va_K.moved hW.alike hK, hD⟩, hS.F ht⟩) hS.2.2 dX11_sinks_20
  exact go _ _ _ hP hD hS hl

set_option maxHeartbeats 4000000 in
set_option maxRecDepth 100000 in
theorem s_X11_cant_w (l : Launch) (D : va_G) (t : pq_T) (σ : pq_S) (I : Nat → Nat → Int32) (J : Nat → Nat → Int64) (ri : Nat → Nat → Int32) (rj : Nat → Nat → Int64) (rq : Nat → Nat → Option Nat) (sz : Nat) (tg : Nat → Nat) (hSH : SH σ tg) (hG0 : GS tg σ I ri rq) (this : Nat) (a0 : Int32) (a1 : Int32) (hL_this : this ∈ σ.1) (hK_this : σ.2.1 this = 11) (this_trial : Nat) (hR_this_trial : σ.2.2.1 354 this = some this_trial) (hL_this_trial : this_trial ∈ σ.1) (hK_this_trial : σ.2.1 this_trial = 10) : MetI l yX11_cant (wa yX11_cant cX11_cant 4 (some .int)) ({ frames := 5, cells := 0, slots := 0, locals := 144 }) [.ref this, .int a0, .int a1] D t σ (I, J, ri, rj, rq) sz 0 0 (fun (r : Int32) (u : pq_S × pq_M) => ∃ I' : Nat → Nat → Int32, ∃ J' : Nat → Nat → Int64, ∃ ri' : Nat → Nat → Int32, ∃ rj' : Nat → Nat → Int64, ∃ rq' : Nat → Nat → Option Nat, u = (σ, I', J', ri', rj', rq') ∧ GX [320, 224, 1225, 1226, 1227, 1228, 1229, 1230, 1231, 1232, 1233, 234, 235, 236, 64, 65, 1069, 1070, 1073, 1074, 1075, 1288, 1079, 0, 1005, 10, 96, 98, 32, 1033, 1034] tg σ I ri rj I' ri' rj' rq' ∧ (FO σ this_trial I I') ∧ (FR0 σ tg this_trial ri ri')) := by
  refine Met.ofW (cc := cX11_cant) (maxL := 4) (ret := (some .int)) (by decide) rfl ?_
  intro p e s m args below meth c s₁ B hml hv
  obtain ⟨rfl, hsz, hP, hK, hD0, hN⟩ := hv
  have hx := B.exec
  have hb := B.bytes
  have hr := B.returns
  have hts := atoms_spec (ws := (wa yX11_cant cX11_cant 4 (some .int))) B.pre
  have hown : s.vm.findClass RX11 = some m.cls := findClass_of_methodNamed B.named
  have hlocks := B.notSynchronized
  subst hsz
  have hD : va_D (pq_B t σ (I, J, ri, rj, rq) s.heap.size) (pq_P t σ (I, J, ri, rj, rq)) := hD0.self
  generalize hAe : pq_B t σ (I, J, ri, rj, rq) s.heap.size = A at hD ⊢
  have hA : ∀ q : Nat, s.heap.size ≤ q → A q := fun q h => by rw [← hAe]; exact Or.inr h
  have hS : va_S A s.heap s.heap [] := va_S.rf
  have hG : GX [320, 224, 1225, 1226, 1227, 1228, 1229, 1230, 1231, 1232, 1233, 234, 235, 236, 64, 65, 1069, 1070, 1073, 1074, 1075, 1288, 1079, 0, 1005, 10, 96, 98, 32, 1033, 1034] tg σ I ri rj I ri rj rq := ⟨hG0, fun _ _ _ => rfl, fun _ _ _ _ _ => rfl, fun _ _ _ _ _ => rfl⟩
  have hl := lv_entry ([.ref this, .int a0, .int a1]) (n := 4) (Nat.le_of_ble_eq_true rfl)
  rw [lg_entry_eq]
  generalize (lg_sl ([.ref this, .int a0, .int a1]) ++ List.replicate (4 - (lg_sl ([.ref this, .int a0, .int a1])).length) Slot.unset).toArray = ls at hl ⊢
  have hl : lv_has ls 4 [(0, .ref this), (1, .int a0), (2, .int a1)] := hl
  refine q_gen (fun Q hQ => ?_)
  have go : ∀ (H : Heap) (locs : List Loc) (ls : Array Slot), va_P D vwCl (pq_P t σ (I, J, ri, rj, rq)) H → va_D A (pq_P t σ (I, J, ri, rj, rq)) → va_S A s.heap H locs → lv_has ls 4 [(0, .ref this), (1, .int a0), (2, .int a1)] → W p l e ({ frames := 5, cells := 0, slots := 0, locals := 144 } : Room) s m (List.toArray ([.ref this, .int a0, .int a1] : List Value)) below meth c H locs 0 0 Q (F0 m 0 ls []) := by
    intro H locs ls hP hD hS hl
    obtain ⟨w_1, hR_w_1, hL_w_1, hK_w_1⟩ := sh_o hSH 352 (ci := 11) (kd := 10) rfl hL_this hK_this
    refine lv_aload_n hx hb dX11_cant_0 rfl (lv_at hl 0 rfl) ?_
    refine lv_iload_n hx hb dX11_cant_1 rfl (lv_at hl 1 rfl) ?_
    refine lv_iload_n hx hb dX11_cant_2 rfl (lv_at hl 2 rfl) ?_
    refine lv_bipush (v := 60) hx hb dX11_cant_3 (by decide) ?_
    refine pk_i (va_runV (As := [.int a0, .int a1, .int 60]) (rest := []) ⟨hx, hb, hml, hown, hts⟩ (s_X11_canGoBy_w l D t σ I J ri rj rq H.size tg hSH hG.1 this a0 a1 (60 : Int32) hL_this hK_this (rg_w (rg_k (60 : Int32) 60 rfl) (by decide)) w_1 hR_w_1 hL_w_1 hK_w_1) (cwV 3 hts (tw_V tw_1035 tw_1036 tw_1037 tw_2 tw_1038) rfl rfl rfl cv_yX11_canGoBy_3 ⟨Nat.le_of_ble_eq_true rfl, Nat.le_of_ble_eq_true rfl⟩) ⟨pq_blind, pq_recv hK hP hL_this hK_this (by decide) rfl, pq_pre hK hN hP hD⟩ rfl rfl hl.1 rfl (lv_room (Nat.le_of_ble_eq_true rfl)) dX11_cant_5 ⟨Nat.le_of_ble_eq_true rfl, Nat.le_of_ble_eq_true rfl⟩) hD hS hA (fun x_2 σ1 μ1 H locs hw_3 hP hD hS => ?_)
    obtain ⟨hu_4, hr_6⟩ := hw_3
    obtain ⟨hu_4a, hu_4b⟩ := Prod.mk.inj hu_4
    rw [hu_4a, hu_4b] at hP hD
    have h_7 : rg x_2 0 1 := by rcases hr_6 with ⟨q, -⟩ | ⟨q, -⟩ <;> rw [q] <;> exact ⟨by decide, by decide⟩
    have uh_7 := h_7.1
    have vh_7 := h_7.2
    refine lv_if_ne (tgt := 13) hx hb dX11_cant_8 (by decide) (fun c_8 => ?_) (fun c_8 => ?_)
    · obtain ⟨f_9, f_10, f_11⟩ := (hr_6.resolve_right (fun q => c_8 q.1)).2
      have zk_12 : (60 : Int32).toInt = 60 := rfl
      have tc_13 : (x_2).toInt ≠ 0 := fun q => c_8 (Int32.toInt_inj.mp q)
      have h_14 : rg x_2 1 1 := rg_ne c_8 h_7 0 rfl (by decide)
      have uh_14 := h_14.1
      have vh_14 := h_14.2
      refine lv_aload_n hx hb dX11_cant_13 rfl (lv_at hl 0 rfl) ?_
      refine pg_f (v := .ref this_trial) (C := RX11) (T := TX11) (N := 5) hx hb hts (tw_i inlX11) hown hK hP hL_this hK_this (by decide) rfl 2 (by decide) (hts _ (tw_c tw_18)) (pq_hv rfl hR_this_trial) dX11_cant_14 ?_
      refine lv_aload_n hx hb dX11_cant_17 rfl (lv_at hl 0 rfl) ?_
      refine pg_f (v := .ref w_1) (C := RX11) (T := TX11) (N := 5) hx hb hts (tw_i inlX11) hown hK hP hL_this hK_this (by decide) rfl 0 (by decide) (hts _ (tw_c tw_16)) (pq_hv rfl hR_w_1) dX11_cant_18 ?_
      refine pk_v (va_runV (As := [.ref w_1]) (rest := []) ⟨hx, hb, hml, hown, hts⟩ (s_X10_copyFrom_w l D t σ I J ri rj rq H.size tg hSH hG.1 this_trial w_1 hL_this_trial hK_this_trial hL_w_1 hK_w_1) (cwV 1 hts (tw_V tw_1362 tw_1363 tw_1364 tw_15 tw_1365) rfl rfl rfl cv_yX10_copyFrom_1 ⟨Nat.le_of_ble_eq_true rfl, Nat.le_of_ble_eq_true rfl⟩) ⟨pq_blind, pq_recv hK hP hL_this_trial hK_this_trial (by decide) rfl, pq_pre hK hN hP hD⟩ rfl rfl hl.1 rfl (lv_room (Nat.le_of_ble_eq_true rfl)) dX11_cant_21 ⟨Nat.le_of_ble_eq_true rfl, Nat.le_of_ble_eq_true rfl⟩) hD hS hA (fun σ1 μ1 H locs hw_16 hP hD hS => ?_)
      obtain ⟨I_17, J_18, ri_19, rj_20, rq_21, hu_22, hg_23, hp_25, hp_26, hp_27⟩ := hw_16
      obtain ⟨hu_22a, hu_22b⟩ := Prod.mk.inj hu_22
      rw [hu_22a, hu_22b] at hP hD
      have tt_28 : (I_17 320 this_trial).toInt = (I 320 w_1).toInt := congrArg Int32.toInt hp_25
      have hG := GX.tr hG hg_23 (by decide)
      refine lv_aload_n hx hb dX11_cant_24 rfl (lv_at hl 0 rfl) ?_
      refine pg_f (v := .ref this_trial) (C := RX11) (T := TX11) (N := 5) hx hb hts (tw_i inlX11) hown hK hP hL_this hK_this (by decide) rfl 2 (by decide) (hts _ (tw_c tw_18)) (pq_hv rfl hR_this_trial) dX11_cant_25 ?_
      refine lv_iconst (v := (-1)) hx hb dX11_cant_28 (by decide) ?_
      refine pp_i (v := (-1)) (ty := .int) (C := RX10) (T := TX10) (N := 13) hx hb hts (tw_i inlX10) tyX10 tyX10_ok nmX10 hown hK hP hD hS hL_this_trial hK_this_trial (by decide) rfl 3 323 (by decide) (hts _ (tw_c tw_1405)) rfl (tyX10_ok 3 (by decide)) rfl rfl (Nat.le_of_ble_eq_true rfl) (ps_323 _ _ _ _ _) dX11_cant_29 (fun I_29 H locs eI_29 hP hD hS => ?_)
      have hG := GX.wI hG 323 rfl eI_29 (rg_w (rg_k (-1 : Int32) (-1) rfl) (by decide)) (by decide)
      have tt_30 : (I_29 320 this_trial).toInt = (I_17 320 this_trial).toInt := by rw [eI_29, pq_uf _ _ _ (by decide)]
      refine lv_iconst (v := 0) hx hb dX11_cant_32 (by decide) ?_
      refine lv_istore_n (lv' := [(3, .int 0), (0, .ref this), (1, .int a0), (2, .int a1)]) hx hb dX11_cant_33 rfl hl (by decide) rfl (fun ls hl => ?_)
      have L_683 : ∀ (n_682 : Nat) (x_637 : Int32) (I_638 : Nat → Nat → Int32) (J_639 : Nat → Nat → Int64) (ri_640 : Nat → Nat → Int32) (rj_641 : Nat → Nat → Int64) (H : Heap) (locs : List Loc) (ls : Array Slot), rg x_637 0 60 → ((I_638 320 this_trial).toInt = (I 320 w_1).toInt + (x_637).toInt) → (FO σ this_trial I I_638) → (FR0 σ tg this_trial ri ri_640) → (60 - (x_637).toInt).toNat < n_682 → GX [320, 224, 1225, 1226, 1227, 1228, 1229, 1230, 1231, 1232, 1233, 234, 235, 236, 64, 65, 1069, 1070, 1073, 1074, 1075, 1288, 1079, 0, 1005, 10, 96, 98, 32, 1033, 1034] tg σ I ri rj I_638 ri_640 rj_641 rq_21 → va_P D vwCl (pq_P t σ (I_638, J_639, ri_640, rj_641, rq_21)) H → va_D A (pq_P t σ (I_638, J_639, ri_640, rj_641, rq_21)) → va_S A s.heap H locs → lv_has ls 4 [(0, .ref this), (1, .int a0), (2, .int a1), (3, .int x_637)] → W p l e ({ frames := 5, cells := 0, slots := 0, locals := 144 } : Room) s m (List.toArray ([.ref this, .int a0, .int a1] : List Value)) below meth c H locs 0 0 Q (F0 m 34 ls []) := by
        intro n_682
        induction n_682 with
        | zero => intro x_637 I_638 J_639 ri_640 rj_641 H locs ls h_689 hrel_690 hrel_691 hrel_692 hm_681 hG hP hD hS hl; exact absurd hm_681 (Nat.not_lt_zero _)
        | succ n_682 ih_684 =>
          intro x_637 I_638 J_639 ri_640 rj_641 H locs ls h_689 hrel_690 hrel_691 hrel_692 hm_681 hG hP hD hS hl
          have uh_689 := h_689.1
          have vh_689 := h_689.2
          refine lv_iload_n hx hb dX11_cant_34 rfl (lv_at hl 3 rfl) ?_
          refine lv_iload_n hx hb dX11_cant_35 rfl (lv_at hl 2 rfl) ?_
          refine lv_icmp_ge (tgt := 84) hx hb dX11_cant_36 (by decide) (fun c_693 => ?_) (fun c_693 => ?_)
          · have tc_694 : (a1).toInt ≤ (x_637).toInt := Int32.le_iff_toInt_le.mp c_693
            have h_695 : rg x_637 1 60 := rg_le2 c_693 f_10 h_689 (by decide)
            have uh_695 := h_695.1
            have vh_695 := h_695.2
            refine lv_aload_n hx hb dX11_cant_84 rfl (lv_at hl 0 rfl) ?_
            refine pg_f (v := .ref this_trial) (C := RX11) (T := TX11) (N := 5) hx hb hts (tw_i inlX11) hown hK hP hL_this hK_this (by decide) rfl 2 (by decide) (hts _ (tw_c tw_18)) (pq_hv rfl hR_this_trial) dX11_cant_85 ?_
            refine pg_f (v := .int (I_638 323 this_trial)) (C := RX10) (T := TX10) (N := 13) hx hb hts (tw_i inlX10) hown hK hP hL_this_trial hK_this_trial (by decide) rfl 3 (by decide) (hts _ (tw_c tw_1405)) rfl dX11_cant_88 ?_
            subst hQ
            exact W.iret (v := (I_638 323 this_trial)) hx hb hr (fun t1 ht hW => ⟨⟨(I_638 323 this_trial), (σ, I_638, J_639, ri_640, rj_641, rq_21), rfl, ⟨I_638, J_639, ri_640, rj_641, rq_21, rfl, hG, hrel_691, hrel_692⟩, by rw [ht]; exact hP, va_K.moved hW.alike hK, hD⟩, hS.F ht⟩) hS.2.2 dX11_cant_91
          · have tc_696 : (x_637).toInt < (a1).toInt := Int32.lt_iff_toInt_lt.mp (nle c_693)
            have h_697 : rg x_637 0 59 := rg_lt1 (nle c_693) h_689 f_10 (by decide)
            have uh_697 := h_697.1
            have vh_697 := h_697.2
            refine lv_aload_n hx hb dX11_cant_39 rfl (lv_at hl 0 rfl) ?_
            refine pg_f (v := .ref this_trial) (C := RX11) (T := TX11) (N := 5) hx hb hts (tw_i inlX11) hown hK hP hL_this hK_this (by decide) rfl 2 (by decide) (hts _ (tw_c tw_18)) (pq_hv rfl hR_this_trial) dX11_cant_40 ?_
            refine pg_f (v := .int (I_638 323 this_trial)) (C := RX10) (T := TX10) (N := 13) hx hb hts (tw_i inlX10) hown hK hP hL_this_trial hK_this_trial (by decide) rfl 3 (by decide) (hts _ (tw_c tw_1405)) rfl dX11_cant_43 ?_
            refine lv_iconst (v := (-1)) hx hb dX11_cant_46 (by decide) ?_
            refine lv_icmp_ne (tgt := 84) hx hb dX11_cant_47 (by decide) (fun c_698 => ?_) (fun c_698 => ?_)
            · have tc_699 : (I_638 323 this_trial).toInt ≠ (-1) := fun q => c_698 (Int32.toInt_inj.mp q)
              refine lv_aload_n hx hb dX11_cant_84 rfl (lv_at hl 0 rfl) ?_
              refine pg_f (v := .ref this_trial) (C := RX11) (T := TX11) (N := 5) hx hb hts (tw_i inlX11) hown hK hP hL_this hK_this (by decide) rfl 2 (by decide) (hts _ (tw_c tw_18)) (pq_hv rfl hR_this_trial) dX11_cant_85 ?_
              refine pg_f (v := .int (I_638 323 this_trial)) (C := RX10) (T := TX10) (N := 13) hx hb hts (tw_i inlX10) hown hK hP hL_this_trial hK_this_trial (by decide) rfl 3 (by decide) (hts _ (tw_c tw_1405)) rfl dX11_cant_88 ?_
              subst hQ
              exact W.iret (v := (I_638 323 this_trial)) hx hb hr (fun t1 ht hW => ⟨⟨(I_638 323 this_trial), (σ, I_638, J_639, ri_640, rj_641, rq_21), rfl, ⟨I_638, J_639, ri_640, rj_641, rq_21, rfl, hG, hrel_691, hrel_692⟩, by rw [ht]; exact hP, va_K.moved hW.alike hK, hD⟩, hS.F ht⟩) hS.2.2 dX11_cant_91
            · have tc_700 : (I_638 323 this_trial).toInt = (-1) := congrArg Int32.toInt c_698
              have h_701 : rg (I_638 323 this_trial) (-1) (-1) := rg_and (rg_full _) (rg_of_eq c_698 (rg_k (-1 : Int32) (-1) rfl)) (by decide)
              have uh_701 := h_701.1
              have vh_701 := h_701.2
              refine lv_aload_n hx hb dX11_cant_50 rfl (lv_at hl 0 rfl) ?_
              refine pg_f (v := .ref this_trial) (C := RX11) (T := TX11) (N := 5) hx hb hts (tw_i inlX11) hown hK hP hL_this hK_this (by decide) rfl 2 (by decide) (hts _ (tw_c tw_18)) (pq_hv rfl hR_this_trial) dX11_cant_51 ?_
              refine lv_iload_n hx hb dX11_cant_54 rfl (lv_at hl 1 rfl) ?_
              refine pk_v (va_runV (As := [.int a0]) (rest := []) ⟨hx, hb, hml, hown, hts⟩ (s_X10_nature l D t σ I_638 J_639 ri_640 rj_641 rq_21 H.size tg hSH hG.1 this_trial a0 hL_this_trial hK_this_trial) (cwV 1 hts (tw_V tw_1395 tw_1048 tw_1049 tw_15 tw_1050) rfl rfl rfl cv_yX10_nature_1 ⟨Nat.le_of_ble_eq_true rfl, Nat.le_of_ble_eq_true rfl⟩) ⟨pq_blind, pq_recv hK hP hL_this_trial hK_this_trial (by decide) rfl, pq_pre hK hN hP hD⟩ rfl rfl hl.1 rfl (lv_room (Nat.le_of_ble_eq_true rfl)) dX11_cant_55 ⟨Nat.le_of_ble_eq_true rfl, Nat.le_of_ble_eq_true rfl⟩) hD hS hA (fun σ1 μ1 H locs hw_703 hP hD hS => ?_)
              obtain ⟨I_704, J_705, ri_706, rj_707, hu_708, hg_709⟩ := hw_703
              obtain ⟨hu_708a, hu_708b⟩ := Prod.mk.inj hu_708
              rw [hu_708a, hu_708b] at hP hD
              have hG := GX.tr hG hg_709 (by decide)
              have tt_711 : (I_704 320 this_trial).toInt = (I_638 320 this_trial).toInt := by rw [hg_709.2.1 320 (by decide) (by decide)]
              refine lv_aload_n hx hb dX11_cant_58 rfl (lv_at hl 0 rfl) ?_
              refine pg_f (v := .ref this_trial) (C := RX11) (T := TX11) (N := 5) hx hb hts (tw_i inlX11) hown hK hP hL_this hK_this (by decide) rfl 2 (by decide) (hts _ (tw_c tw_18)) (pq_hv rfl hR_this_trial) dX11_cant_59 ?_
              refine pk_v (va_runV (As := []) (rest := []) ⟨hx, hb, hml, hown, hts⟩ (s_X10_reckon l D t σ I_704 J_705 ri_706 rj_707 rq_21 H.size tg hSH hG.1 this_trial hL_this_trial hK_this_trial) (cwV 0 hts (tw_V tw_1406 tw_1126 tw_1127 tw_15 tw_1128) rfl rfl rfl cv_yX10_reckon_0 ⟨Nat.le_of_ble_eq_true rfl, Nat.le_of_ble_eq_true rfl⟩) ⟨pq_blind, pq_recv hK hP hL_this_trial hK_this_trial (by decide) rfl, pq_pre hK hN hP hD⟩ rfl rfl hl.1 rfl (lv_room (Nat.le_of_ble_eq_true rfl)) dX11_cant_62 ⟨Nat.le_of_ble_eq_true rfl, Nat.le_of_ble_eq_true rfl⟩) hD hS hA (fun σ1 μ1 H locs hw_713 hP hD hS => ?_)
              obtain ⟨I_714, ri_715, hu_716, hg_717⟩ := hw_713
              obtain ⟨hu_716a, hu_716b⟩ := Prod.mk.inj hu_716
              rw [hu_716a, hu_716b] at hP hD
              have hG := GX.tr hG hg_717 (by decide)
              have tt_719 : (I_714 320 this_trial).toInt = (I_704 320 this_trial).toInt := by rw [hg_717.2.1 320 (by decide) (by decide)]
              refine lv_aload_n hx hb dX11_cant_65 rfl (lv_at hl 0 rfl) ?_
              refine pg_f (v := .ref this_trial) (C := RX11) (T := TX11) (N := 5) hx hb hts (tw_i inlX11) hown hK hP hL_this hK_this (by decide) rfl 2 (by decide) (hts _ (tw_c tw_18)) (pq_hv rfl hR_this_trial) dX11_cant_66 ?_
              refine lv_dup hx hb dX11_cant_69 rfl ?_
              refine pg_f (v := .int (I_714 320 this_trial)) (C := RX10) (T := TX10) (N := 13) hx hb hts (tw_i inlX10) hown hK hP hL_this_trial hK_this_trial (by decide) rfl 0 (by decide) (hts _ (tw_c tw_209)) rfl dX11_cant_70 ?_
              have h_720 : rg (I_714 320 this_trial) 0 600 := GX.rI hG 320 rfl
              have uh_720 := h_720.1
              have vh_720 := h_720.2
              refine lv_iconst (v := 1) hx hb dX11_cant_73 (by decide) ?_
              refine lv_iadd hx hb dX11_cant_74 ?_
              refine lv_topi (fun x_721 ex_721 => ?_)
              have h_722 : rg x_721 1 601 := rg_of_eq ex_721 (rg_add h_720 (rg_k (1 : Int32) 1 rfl) (by decide))
              have uh_722 := h_722.1
              have vh_722 := h_722.2
              have tx_721 : (x_721).toInt = (I_714 320 this_trial).toInt + 1 := by rw [ex_721]; exact i_add_rg (a2 := (I_714 320 this_trial).toInt) (b2 := 1) rfl rfl h_720 (rg_k (1 : Int32) 1 rfl) (by decide)
              refine pp_i (v := x_721) (ty := .int) (C := RX10) (T := TX10) (N := 13) hx hb hts (tw_i inlX10) tyX10 tyX10_ok nmX10 hown hK hP hD hS hL_this_trial hK_this_trial (by decide) rfl 0 320 (by decide) (hts _ (tw_c tw_209)) rfl (tyX10_ok 0 (by decide)) rfl rfl (Nat.le_of_ble_eq_true rfl) (ps_320 _ _ _ _ _) dX11_cant_75 (fun I_723 H locs eI_723 hP hD hS => ?_)
              have h_724 : rg x_721 1 600 := ⟨by omega, by omega⟩
              have uh_724 := h_724.1
              have vh_724 := h_724.2
              have hG := GX.wI hG 320 rfl eI_723 (rg_w h_724 (by decide)) (by decide)
              have tt_725 : (I_723 320 this_trial).toInt = (x_721).toInt := by rw [eI_723, pq_us]
              obtain ⟨x_726, ex_726⟩ : ∃ y : Int32, y = x_637 + Int32.ofInt 1 := ⟨_, rfl⟩
              have h_727 : rg x_726 1 60 := rg_of_eq ex_726 (rg_add h_697 (rg_k (Int32.ofInt 1) 1 rfl) (by decide))
              have uh_727 := h_727.1
              have vh_727 := h_727.2
              have tx_726 : (x_726).toInt = (x_637).toInt + 1 := by rw [ex_726]; exact i_add_rg (a2 := (x_637).toInt) (b2 := 1) rfl rfl h_697 (rg_k (Int32.ofInt 1) 1 rfl) (by decide)
              refine lv_iinc (v := x_726) (lv' := [(3, .int x_726), (0, .ref this), (1, .int a0), (2, .int a1)]) hx hb dX11_cant_78 hl (k := 3) rfl ex_726.symm (by decide) rfl (fun ls hl => ?_)
              refine lv_goto (tgt := 34) hx hb dX11_cant_81 (by decide) ?_
              exact ih_684 x_726 I_723 J_705 ri_715 rj_707 _ _ _ (rg_w h_727 (by decide)) (by omega) (fo_t (fo_t (fo_t hrel_691 (fo_c hg_709 (by decide))) (fo_c hg_717 (by decide))) (fo_p eI_723)) (fr_tt (fr_tt hrel_692 (fr_c hg_709 (by decide))) (fr_c hg_717 (by decide))) (ms_up 1 hm_681 ex_726 rfl (by decide) h_697 (by decide) (by decide)) hG hP hD hS (lv_sub hl [1, 2, 3, 0] rfl)
      exact L_683 _ (0 : Int32) I_29 J_18 ri_19 rj_20 _ _ _ (rg_w (rg_k (0 : Int32) 0 rfl) (by decide)) (by have k0 : (0 : Int32).toInt = 0 := rfl; omega) (fo_t (fo_t fo_rf (fo_u hp_26)) (fo_o eI_29 (by decide))) (fr_tt fr_rf (fr_u hp_27)) (Nat.lt_succ_self _) hG hP hD hS (lv_sub hl [1, 2, 3, 0] rfl)
    · have f_728 := (hr_6.resolve_left (fun q => absurd (q.1.symm.trans c_8) (by decide))).2
      have zk_729 : (60 : Int32).toInt = 60 := rfl
      have tc_730 : (x_2).toInt = 0 := congrArg Int32.toInt c_8
      have h_731 : rg x_2 0 0 := rg_and h_7 (rg_of_eq c_8 (rg_k (0 : Int32) 0 rfl)) (by decide)
      have uh_731 := h_731.1
      have vh_731 := h_731.2
      refine lv_iconst (v := (-1)) hx hb dX11_cant_11 (by decide) ?_
      subst hQ
      exact W.iret (v := (-1)) hx hb hr (fun t1 ht hW => ⟨⟨(-1), (σ, I, J, ri, rj, rq), rfl, ⟨I, J, ri, rj, rq, rfl, hG, fo_rf, fr_rf⟩, by rw [ht]; exact hP, va_K.moved hW.alike hK, hD⟩, hS.F ht⟩) hS.2.2 dX11_cant_12
  exact go _ _ _ hP hD hS hl

set_option maxHeartbeats 4000000 in
set_option maxRecDepth 100000 in
theorem s_X11_keeps_w (l : Launch) (D : va_G) (t : pq_T) (σ : pq_S) (I : Nat → Nat → Int32) (J : Nat → Nat → Int64) (ri : Nat → Nat → Int32) (rj : Nat → Nat → Int64) (rq : Nat → Nat → Option Nat) (sz : Nat) (tg : Nat → Nat) (hSH : SH σ tg) (hG0 : GS tg σ I ri rq) (this : Nat) (a0 : Int32) (a1 : Int32) (a2 : Int32) (a3 : Int32) (hL_this : this ∈ σ.1) (hK_this : σ.2.1 this = 11) (this_trial : Nat) (hR_this_trial : σ.2.2.1 354 this = some this_trial) (hL_this_trial : this_trial ∈ σ.1) (hK_this_trial : σ.2.1 this_trial = 10) : MetI l yX11_keeps (wa yX11_keeps cX11_keeps 7 (some .int)) ({ frames := 5, cells := 0, slots := 0, locals := 144 }) [.ref this, .int a0, .int a1, .int a2, .int a3] D t σ (I, J, ri, rj, rq) sz 0 0 (fun (r : Int32) (u : pq_S × pq_M) => ∃ I' : Nat → Nat → Int32, ∃ J' : Nat → Nat → Int64, ∃ ri' : Nat → Nat → Int32, ∃ rj' : Nat → Nat → Int64, ∃ rq' : Nat → Nat → Option Nat, u = (σ, I', J', ri', rj', rq') ∧ GX [320, 224, 1225, 1226, 1227, 1228, 1229, 1230, 1231, 1232, 1233, 234, 235, 236, 64, 65, 1069, 1070, 1073, 1074, 1075, 1288, 1079, 0, 1005, 10, 96, 98, 32, 1033, 1034] tg σ I ri rj I' ri' rj' rq' ∧ (FO σ this_trial I I') ∧ (FR0 σ tg this_trial ri ri')) := by
  refine Met.ofW (cc := cX11_keeps) (maxL := 7) (ret := (some .int)) (by decide) rfl ?_
  intro p e s m args below meth c s₁ B hml hv
  obtain ⟨rfl, hsz, hP, hK, hD0, hN⟩ := hv
  have hx := B.exec
  have hb := B.bytes
  have hr := B.returns
  have hts := atoms_spec (ws := (wa yX11_keeps cX11_keeps 7 (some .int))) B.pre
  have hown : s.vm.findClass RX11 = some m.cls := findClass_of_methodNamed B.named
  have hlocks := B.notSynchronized
  subst hsz
  have hD : va_D (pq_B t σ (I, J, ri, rj, rq) s.heap.size) (pq_P t σ (I, J, ri, rj, rq)) := hD0.self
  generalize hAe : pq_B t σ (I, J, ri, rj, rq) s.heap.size = A at hD ⊢
  have hA : ∀ q : Nat, s.heap.size ≤ q → A q := fun q h => by rw [← hAe]; exact Or.inr h
  have hS : va_S A s.heap s.heap [] := va_S.rf
  have hG : GX [320, 224, 1225, 1226, 1227, 1228, 1229, 1230, 1231, 1232, 1233, 234, 235, 236, 64, 65, 1069, 1070, 1073, 1074, 1075, 1288, 1079, 0, 1005, 10, 96, 98, 32, 1033, 1034] tg σ I ri rj I ri rj rq := ⟨hG0, fun _ _ _ => rfl, fun _ _ _ _ _ => rfl, fun _ _ _ _ _ => rfl⟩
  have hl := lv_entry ([.ref this, .int a0, .int a1, .int a2, .int a3]) (n := 7) (Nat.le_of_ble_eq_true rfl)
  rw [lg_entry_eq]
  generalize (lg_sl ([.ref this, .int a0, .int a1, .int a2, .int a3]) ++ List.replicate (7 - (lg_sl ([.ref this, .int a0, .int a1, .int a2, .int a3])).length) Slot.unset).toArray = ls at hl ⊢
  have hl : lv_has ls 7 [(0, .ref this), (1, .int a0), (2, .int a1), (3, .int a2), (4, .int a3)] := hl
  refine q_gen (fun Q hQ => ?_)
  have go : ∀ (H : Heap) (locs : List Loc) (ls : Array Slot), va_P D vwCl (pq_P t σ (I, J, ri, rj, rq)) H → va_D A (pq_P t σ (I, J, ri, rj, rq)) → va_S A s.heap H locs → lv_has ls 7 [(0, .ref this), (1, .int a0), (2, .int a1), (3, .int a2), (4, .int a3)] → W p l e ({ frames := 5, cells := 0, slots := 0, locals := 144 } : Room) s m (List.toArray ([.ref this, .int a0, .int a1, .int a2, .int a3] : List Value)) below meth c H locs 0 0 Q (F0 m 0 ls []) := by
    intro H locs ls hP hD hS hl
    refine lv_aload_n hx hb dX11_keeps_0 rfl (lv_at hl 0 rfl) ?_
    refine lv_iload_n hx hb dX11_keeps_1 rfl (lv_at hl 1 rfl) ?_
    obtain ⟨w_1, hR_w_1, hL_w_1, hK_w_1⟩ := sh_o hSH 352 (ci := 11) (kd := 10) rfl hL_this hK_this
    obtain ⟨w_2, hR_w_2, hL_w_2, hK_w_2⟩ := sh_o hSH 327 (ci := 10) (kd := 2) rfl hL_w_1 hK_w_1
    refine pk_i (va_runV (As := [.int a0]) (rest := []) ⟨hx, hb, hml, hown, hts⟩ (s_X11_isCell_w l D t σ I J ri rj rq H.size tg hSH hG.1 this a0 hL_this hK_this w_1 hR_w_1 hL_w_1 hK_w_1 w_2 hR_w_2 hL_w_2 hK_w_2) (cwV 1 hts (tw_V tw_332 tw_333 tw_334 tw_2 tw_335) rfl rfl rfl cv_yX11_isCell_1 ⟨Nat.le_of_ble_eq_true rfl, Nat.le_of_ble_eq_true rfl⟩) ⟨pq_blind, pq_recv hK hP hL_this hK_this (by decide) rfl, pq_pre hK hN hP hD⟩ rfl rfl hl.1 rfl (lv_room (Nat.le_of_ble_eq_true rfl)) dX11_keeps_2 ⟨Nat.le_of_ble_eq_true rfl, Nat.le_of_ble_eq_true rfl⟩) hD hS hA (fun x_3 σ1 μ1 H locs hw_4 hP hD hS => ?_)
    obtain ⟨hu_5, hr_7⟩ := hw_4
    obtain ⟨hu_5a, hu_5b⟩ := Prod.mk.inj hu_5
    rw [hu_5a, hu_5b] at hP hD
    have h_8 : rg x_3 0 1 := by rcases hr_7 with ⟨q, -⟩ | ⟨q, -⟩ <;> rw [q] <;> exact ⟨by decide, by decide⟩
    have uh_8 := h_8.1
    have vh_8 := h_8.2
    refine lv_if_eq (tgt := 32) hx hb dX11_keeps_5 (by decide) (fun c_9 => ?_) (fun c_9 => ?_)
    · have f_10 := (hr_7.resolve_left (fun q => absurd (q.1.symm.trans c_9) (by decide))).2
      have tc_11 : (x_3).toInt = 0 := congrArg Int32.toInt c_9
      have h_12 : rg x_3 0 0 := rg_and h_8 (rg_of_eq c_9 (rg_k (0 : Int32) 0 rfl)) (by decide)
      have uh_12 := h_12.1
      have vh_12 := h_12.2
      refine lv_iconst (v := 0) hx hb dX11_keeps_32 (by decide) ?_
      refine lv_istore (lv' := [(5, .int 0), (0, .ref this), (1, .int a0), (2, .int a1), (3, .int a2), (4, .int a3)]) hx hb dX11_keeps_33 hl (by decide) rfl (fun ls hl => ?_)
      refine lv_iload hx hb dX11_keeps_35 (lv_at hl 0 rfl) ?_
      refine lv_if_eq (tgt := 55) hx hb dX11_keeps_37 (by decide) (fun c_13 => ?_) (fun c_13 => absurd c_13 (by decide))
      refine lv_ldc hx hb hown (hts _ (tw_c tw_269)) dX11_keeps_55 ?_
      subst hQ
      exact W.iret (v := (-1000000)) hx hb hr (fun t1 ht hW => ⟨⟨(-1000000), (σ, I, J, ri, rj, rq), rfl, ⟨I, J, ri, rj, rq, rfl, hG, fo_rf, fr_rf⟩, by rw [ht]; exact hP, va_K.moved hW.alike hK, hD⟩, hS.F ht⟩) hS.2.2 dX11_keeps_57
    · obtain ⟨f_14, f_15⟩ := (hr_7.resolve_right (fun q => c_9 q.1)).2
      have tc_16 : (x_3).toInt ≠ 0 := fun q => c_9 (Int32.toInt_inj.mp q)
      have h_17 : rg x_3 1 1 := rg_ne c_9 h_8 0 rfl (by decide)
      have uh_17 := h_17.1
      have vh_17 := h_17.2
      refine lv_aload_n hx hb dX11_keeps_8 rfl (lv_at hl 0 rfl) ?_
      refine lv_iload_n hx hb dX11_keeps_9 rfl (lv_at hl 2 rfl) ?_
      refine pk_i (va_runV (As := [.int a1]) (rest := []) ⟨hx, hb, hml, hown, hts⟩ (s_X11_isCell_w l D t σ I J ri rj rq H.size tg hSH hG.1 this a1 hL_this hK_this w_1 hR_w_1 hL_w_1 hK_w_1 w_2 hR_w_2 hL_w_2 hK_w_2) (cwV 1 hts (tw_V tw_332 tw_333 tw_334 tw_2 tw_335) rfl rfl rfl cv_yX11_isCell_1 ⟨Nat.le_of_ble_eq_true rfl, Nat.le_of_ble_eq_true rfl⟩) ⟨pq_blind, pq_recv hK hP hL_this hK_this (by decide) rfl, pq_pre hK hN hP hD⟩ rfl rfl hl.1 rfl (lv_room (Nat.le_of_ble_eq_true rfl)) dX11_keeps_10 ⟨Nat.le_of_ble_eq_true rfl, Nat.le_of_ble_eq_true rfl⟩) hD hS hA (fun x_18 σ1 μ1 H locs hw_19 hP hD hS => ?_)
      obtain ⟨hu_20, hr_22⟩ := hw_19
      obtain ⟨hu_20a, hu_20b⟩ := Prod.mk.inj hu_20
      rw [hu_20a, hu_20b] at hP hD
      have h_23 : rg x_18 0 1 := by rcases hr_22 with ⟨q, -⟩ | ⟨q, -⟩ <;> rw [q] <;> exact ⟨by decide, by decide⟩
      have uh_23 := h_23.1
      have vh_23 := h_23.2
      refine lv_if_eq (tgt := 32) hx hb dX11_keeps_13 (by decide) (fun c_24 => ?_) (fun c_24 => ?_)
      · have f_25 := (hr_22.resolve_left (fun q => absurd (q.1.symm.trans c_24) (by decide))).2
        have tc_26 : (x_18).toInt = 0 := congrArg Int32.toInt c_24
        have h_27 : rg x_18 0 0 := rg_and h_23 (rg_of_eq c_24 (rg_k (0 : Int32) 0 rfl)) (by decide)
        have uh_27 := h_27.1
        have vh_27 := h_27.2
        refine lv_iconst (v := 0) hx hb dX11_keeps_32 (by decide) ?_
        refine lv_istore (lv' := [(5, .int 0), (0, .ref this), (1, .int a0), (2, .int a1), (3, .int a2), (4, .int a3)]) hx hb dX11_keeps_33 hl (by decide) rfl (fun ls hl => ?_)
        refine lv_iload hx hb dX11_keeps_35 (lv_at hl 0 rfl) ?_
        refine lv_if_eq (tgt := 55) hx hb dX11_keeps_37 (by decide) (fun c_28 => ?_) (fun c_28 => absurd c_28 (by decide))
        refine lv_ldc hx hb hown (hts _ (tw_c tw_269)) dX11_keeps_55 ?_
        subst hQ
        exact W.iret (v := (-1000000)) hx hb hr (fun t1 ht hW => ⟨⟨(-1000000), (σ, I, J, ri, rj, rq), rfl, ⟨I, J, ri, rj, rq, rfl, hG, fo_rf, fr_rf⟩, by rw [ht]; exact hP, va_K.moved hW.alike hK, hD⟩, hS.F ht⟩) hS.2.2 dX11_keeps_57
      · obtain ⟨f_29, f_30⟩ := (hr_22.resolve_right (fun q => c_24 q.1)).2
        have tc_31 : (x_18).toInt ≠ 0 := fun q => c_24 (Int32.toInt_inj.mp q)
        have h_32 : rg x_18 1 1 := rg_ne c_24 h_23 0 rfl (by decide)
        have uh_32 := h_32.1
        have vh_32 := h_32.2
        refine lv_aload_n hx hb dX11_keeps_16 rfl (lv_at hl 0 rfl) ?_
        refine lv_iload_n hx hb dX11_keeps_17 rfl (lv_at hl 3 rfl) ?_
        refine lv_iload hx hb dX11_keeps_18 (lv_at hl 4 rfl) ?_
        refine lv_bipush (v := 60) hx hb dX11_keeps_20 (by decide) ?_
        refine pk_i (va_runV (As := [.int a2, .int a3, .int 60]) (rest := []) ⟨hx, hb, hml, hown, hts⟩ (s_X11_canGoBy_w l D t σ I J ri rj rq H.size tg hSH hG.1 this a2 a3 (60 : Int32) hL_this hK_this (rg_w (rg_k (60 : Int32) 60 rfl) (by decide)) w_1 hR_w_1 hL_w_1 hK_w_1) (cwV 3 hts (tw_V tw_1035 tw_1036 tw_1037 tw_2 tw_1038) rfl rfl rfl cv_yX11_canGoBy_3 ⟨Nat.le_of_ble_eq_true rfl, Nat.le_of_ble_eq_true rfl⟩) ⟨pq_blind, pq_recv hK hP hL_this hK_this (by decide) rfl, pq_pre hK hN hP hD⟩ rfl rfl hl.1 rfl (lv_room (Nat.le_of_ble_eq_true rfl)) dX11_keeps_22 ⟨Nat.le_of_ble_eq_true rfl, Nat.le_of_ble_eq_true rfl⟩) hD hS hA (fun x_33 σ1 μ1 H locs hw_34 hP hD hS => ?_)
        obtain ⟨hu_35, hr_37⟩ := hw_34
        obtain ⟨hu_35a, hu_35b⟩ := Prod.mk.inj hu_35
        rw [hu_35a, hu_35b] at hP hD
        have h_38 : rg x_33 0 1 := by rcases hr_37 with ⟨q, -⟩ | ⟨q, -⟩ <;> rw [q] <;> exact ⟨by decide, by decide⟩
        have uh_38 := h_38.1
        have vh_38 := h_38.2
        refine lv_if_eq (tgt := 32) hx hb dX11_keeps_25 (by decide) (fun c_39 => ?_) (fun c_39 => ?_)
        · have f_40 := (hr_37.resolve_left (fun q => absurd (q.1.symm.trans c_39) (by decide))).2
          have zk_41 : (60 : Int32).toInt = 60 := rfl
          have tc_42 : (x_33).toInt = 0 := congrArg Int32.toInt c_39
          have h_43 : rg x_33 0 0 := rg_and h_38 (rg_of_eq c_39 (rg_k (0 : Int32) 0 rfl)) (by decide)
          have uh_43 := h_43.1
          have vh_43 := h_43.2
          refine lv_iconst (v := 0) hx hb dX11_keeps_32 (by decide) ?_
          refine lv_istore (lv' := [(5, .int 0), (0, .ref this), (1, .int a0), (2, .int a1), (3, .int a2), (4, .int a3)]) hx hb dX11_keeps_33 hl (by decide) rfl (fun ls hl => ?_)
          refine lv_iload hx hb dX11_keeps_35 (lv_at hl 0 rfl) ?_
          refine lv_if_eq (tgt := 55) hx hb dX11_keeps_37 (by decide) (fun c_44 => ?_) (fun c_44 => absurd c_44 (by decide))
          refine lv_ldc hx hb hown (hts _ (tw_c tw_269)) dX11_keeps_55 ?_
          subst hQ
          exact W.iret (v := (-1000000)) hx hb hr (fun t1 ht hW => ⟨⟨(-1000000), (σ, I, J, ri, rj, rq), rfl, ⟨I, J, ri, rj, rq, rfl, hG, fo_rf, fr_rf⟩, by rw [ht]; exact hP, va_K.moved hW.alike hK, hD⟩, hS.F ht⟩) hS.2.2 dX11_keeps_57
        · obtain ⟨f_45, f_46, f_47⟩ := (hr_37.resolve_right (fun q => c_39 q.1)).2
          have zk_48 : (60 : Int32).toInt = 60 := rfl
          have tc_49 : (x_33).toInt ≠ 0 := fun q => c_39 (Int32.toInt_inj.mp q)
          have h_50 : rg x_33 1 1 := rg_ne c_39 h_38 0 rfl (by decide)
          have uh_50 := h_50.1
          have vh_50 := h_50.2
          refine lv_iconst (v := 1) hx hb dX11_keeps_28 (by decide) ?_
          refine lv_goto (tgt := 33) hx hb dX11_keeps_29 (by decide) ?_
          refine lv_istore (lv' := [(5, .int 1), (0, .ref this), (1, .int a0), (2, .int a1), (3, .int a2), (4, .int a3)]) hx hb dX11_keeps_33 hl (by decide) rfl (fun ls hl => ?_)
          refine lv_iload hx hb dX11_keeps_35 (lv_at hl 0 rfl) ?_
          refine lv_if_eq (tgt := 55) hx hb dX11_keeps_37 (by decide) (fun c_51 => absurd c_51 (by decide)) (fun c_51 => ?_)
          refine lv_aload_n hx hb dX11_keeps_40 rfl (lv_at hl 1 rfl) ?_
          refine pg_f (v := .ref w_1) (C := RX11) (T := TX11) (N := 5) hx hb hts (tw_i inlX11) hown hK hP hL_this hK_this (by decide) rfl 0 (by decide) (hts _ (tw_c tw_16)) (pq_hv rfl hR_w_1) dX11_keeps_41 ?_
          refine pg_f (v := .ref w_2) (C := RX10) (T := TX10) (N := 13) hx hb hts (tw_i inlX10) hown hK hP hL_w_1 hK_w_1 (by decide) rfl 7 (by decide) (hts _ (tw_c tw_199)) (pq_hv rfl hR_w_2) dX11_keeps_44 ?_
          obtain ⟨w_52, hR_w_52, hL_w_52, hK_w_52, hN_w_52, hT_w_52⟩ := sh_a hSH 75 (ci := 2) (kd := 13) (len := 40) rfl (by decide) hL_w_2 hK_w_2
          refine pg_f (v := .ref w_52) (C := RX2) (T := TX2) (N := 20) hx hb hts (tw_i inlX2) hown hK hP hL_w_2 hK_w_2 (by decide) rfl 11 (by decide) (hts _ (tw_c tw_331)) (pq_hv rfl hR_w_52) dX11_keeps_47 ?_
          refine lv_iload_n hx hb dX11_keeps_50 rfl (lv_at hl 2 rfl) ?_
          refine pl_i hx hb hK hP hL_w_52 hK_w_52 hN_w_52 (rg_in f_14 (by decide)) dX11_keeps_51 ?_
          refine lv_topi (fun x_53 ex_53 => ?_)
          refine lv_if_ne (tgt := 58) hx hb dX11_keeps_52 (by decide) (fun c_54 => ?_) (fun c_54 => ?_)
          · have tc_55 : (x_53).toInt ≠ 0 := fun q => c_54 (Int32.toInt_inj.mp q)
            refine lv_aload_n hx hb dX11_keeps_58 rfl (lv_at hl 1 rfl) ?_
            refine pg_f (v := .ref this_trial) (C := RX11) (T := TX11) (N := 5) hx hb hts (tw_i inlX11) hown hK hP hL_this hK_this (by decide) rfl 2 (by decide) (hts _ (tw_c tw_18)) (pq_hv rfl hR_this_trial) dX11_keeps_59 ?_
            refine lv_aload_n hx hb dX11_keeps_62 rfl (lv_at hl 1 rfl) ?_
            refine pg_f (v := .ref w_1) (C := RX11) (T := TX11) (N := 5) hx hb hts (tw_i inlX11) hown hK hP hL_this hK_this (by decide) rfl 0 (by decide) (hts _ (tw_c tw_16)) (pq_hv rfl hR_w_1) dX11_keeps_63 ?_
            refine pk_v (va_runV (As := [.ref w_1]) (rest := []) ⟨hx, hb, hml, hown, hts⟩ (s_X10_copyFrom_w l D t σ I J ri rj rq H.size tg hSH hG.1 this_trial w_1 hL_this_trial hK_this_trial hL_w_1 hK_w_1) (cwV 1 hts (tw_V tw_1362 tw_1363 tw_1364 tw_15 tw_1365) rfl rfl rfl cv_yX10_copyFrom_1 ⟨Nat.le_of_ble_eq_true rfl, Nat.le_of_ble_eq_true rfl⟩) ⟨pq_blind, pq_recv hK hP hL_this_trial hK_this_trial (by decide) rfl, pq_pre hK hN hP hD⟩ rfl rfl hl.1 rfl (lv_room (Nat.le_of_ble_eq_true rfl)) dX11_keeps_66 ⟨Nat.le_of_ble_eq_true rfl, Nat.le_of_ble_eq_true rfl⟩) hD hS hA (fun σ1 μ1 H locs hw_57 hP hD hS => ?_)
            obtain ⟨I_58, J_59, ri_60, rj_61, rq_62, hu_63, hg_64, hp_66, hp_67, hp_68⟩ := hw_57
            obtain ⟨hu_63a, hu_63b⟩ := Prod.mk.inj hu_63
            rw [hu_63a, hu_63b] at hP hD
            have tt_69 : (I_58 320 this_trial).toInt = (I 320 w_1).toInt := congrArg Int32.toInt hp_66
            have hG := GX.tr hG hg_64 (by decide)
            refine lv_aload_n hx hb dX11_keeps_69 rfl (lv_at hl 1 rfl) ?_
            refine pg_f (v := .ref this_trial) (C := RX11) (T := TX11) (N := 5) hx hb hts (tw_i inlX11) hown hK hP hL_this hK_this (by decide) rfl 2 (by decide) (hts _ (tw_c tw_18)) (pq_hv rfl hR_this_trial) dX11_keeps_70 ?_
            refine lv_iload hx hb dX11_keeps_73 (lv_at hl 5 rfl) ?_
            refine lv_iload_n hx hb dX11_keeps_75 rfl (lv_at hl 3 rfl) ?_
            refine pk_i (va_runV (As := [.int a3, .int a1]) (rest := []) ⟨hx, hb, hml, hown, hts⟩ (s_X10_sandBehind l D t σ I_58 J_59 ri_60 rj_61 rq_62 H.size tg hSH hG.1 this_trial a3 a1 hL_this_trial hK_this_trial (rg_w f_46 (by decide)) (rg_w f_29 (by decide))) (cwV 2 hts (tw_V tw_1415 tw_1416 tw_1417 tw_15 tw_1418) rfl rfl rfl cv_yX10_sandBehind_2 ⟨Nat.le_of_ble_eq_true rfl, Nat.le_of_ble_eq_true rfl⟩) ⟨pq_blind, pq_recv hK hP hL_this_trial hK_this_trial (by decide) rfl, pq_pre hK hN hP hD⟩ rfl rfl hl.1 rfl (lv_room (Nat.le_of_ble_eq_true rfl)) dX11_keeps_76 ⟨Nat.le_of_ble_eq_true rfl, Nat.le_of_ble_eq_true rfl⟩) hD hS hA (fun x_70 σ1 μ1 H locs hw_71 hP hD hS => ?_)
            obtain ⟨I_72, ri_73, hu_74, hg_75⟩ := hw_71
            obtain ⟨hu_74a, hu_74b⟩ := Prod.mk.inj hu_74
            rw [hu_74a, hu_74b] at hP hD
            have hG := GX.tr hG hg_75 (by decide)
            refine lv_istore (lv' := [(6, .int x_70), (5, .int 1), (0, .ref this), (1, .int a0), (2, .int a1), (3, .int a2), (4, .int a3)]) hx hb dX11_keeps_79 hl (by decide) rfl (fun ls hl => ?_)
            refine lv_aload_n hx hb dX11_keeps_81 rfl (lv_at hl 2 rfl) ?_
            refine pg_f (v := .ref this_trial) (C := RX11) (T := TX11) (N := 5) hx hb hts (tw_i inlX11) hown hK hP hL_this hK_this (by decide) rfl 2 (by decide) (hts _ (tw_c tw_18)) (pq_hv rfl hR_this_trial) dX11_keeps_82 ?_
            refine lv_aload_n hx hb dX11_keeps_85 rfl (lv_at hl 2 rfl) ?_
            refine pg_f (v := .ref w_1) (C := RX11) (T := TX11) (N := 5) hx hb hts (tw_i inlX11) hown hK hP hL_this hK_this (by decide) rfl 0 (by decide) (hts _ (tw_c tw_16)) (pq_hv rfl hR_w_1) dX11_keeps_86 ?_
            refine pk_v (va_runV (As := [.ref w_1]) (rest := []) ⟨hx, hb, hml, hown, hts⟩ (s_X10_copyFrom_w l D t σ I_72 J_59 ri_73 rj_61 rq_62 H.size tg hSH hG.1 this_trial w_1 hL_this_trial hK_this_trial hL_w_1 hK_w_1) (cwV 1 hts (tw_V tw_1362 tw_1363 tw_1364 tw_15 tw_1365) rfl rfl rfl cv_yX10_copyFrom_1 ⟨Nat.le_of_ble_eq_true rfl, Nat.le_of_ble_eq_true rfl⟩) ⟨pq_blind, pq_recv hK hP hL_this_trial hK_this_trial (by decide) rfl, pq_pre hK hN hP hD⟩ rfl rfl hl.1 rfl (lv_room (Nat.le_of_ble_eq_true rfl)) dX11_keeps_89 ⟨Nat.le_of_ble_eq_true rfl, Nat.le_of_ble_eq_true rfl⟩) hD hS hA (fun σ1 μ1 H locs hw_78 hP hD hS => ?_)
            obtain ⟨I_79, J_80, ri_81, rj_82, rq_83, hu_84, hg_85, hp_87, hp_88, hp_89⟩ := hw_78
            obtain ⟨hu_84a, hu_84b⟩ := Prod.mk.inj hu_84
            rw [hu_84a, hu_84b] at hP hD
            have tt_90 : (I_79 320 this_trial).toInt = (I_72 320 w_1).toInt := congrArg Int32.toInt hp_87
            have hG := GX.tr hG hg_85 (by decide)
            refine lv_aload_n hx hb dX11_keeps_92 rfl (lv_at hl 2 rfl) ?_
            refine pg_f (v := .ref this_trial) (C := RX11) (T := TX11) (N := 5) hx hb hts (tw_i inlX11) hown hK hP hL_this hK_this (by decide) rfl 2 (by decide) (hts _ (tw_c tw_18)) (pq_hv rfl hR_this_trial) dX11_keeps_93 ?_
            obtain ⟨w_91, hR_w_91, hL_w_91, hK_w_91⟩ := sh_o hSH 327 (ci := 10) (kd := 2) rfl hL_this_trial hK_this_trial
            refine pg_f (v := .ref w_91) (C := RX10) (T := TX10) (N := 13) hx hb hts (tw_i inlX10) hown hK hP hL_this_trial hK_this_trial (by decide) rfl 7 (by decide) (hts _ (tw_c tw_199)) (pq_hv rfl hR_w_91) dX11_keeps_96 ?_
            obtain ⟨w_92, hR_w_92, hL_w_92, hK_w_92, hN_w_92, hT_w_92⟩ := sh_a hSH 75 (ci := 2) (kd := 13) (len := 40) rfl (by decide) hL_w_91 hK_w_91
            refine pg_f (v := .ref w_92) (C := RX2) (T := TX2) (N := 20) hx hb hts (tw_i inlX2) hown hK hP hL_w_91 hK_w_91 (by decide) rfl 11 (by decide) (hts _ (tw_c tw_331)) (pq_hv rfl hR_w_92) dX11_keeps_99 ?_
            refine lv_iload_n hx hb dX11_keeps_102 rfl (lv_at hl 3 rfl) ?_
            refine lv_iconst (v := 0) hx hb dX11_keeps_103 (by decide) ?_
            refine pt_i hx hb hK hP hD hS hL_w_92 hK_w_92 hN_w_92 (rg_in f_14 (by decide)) dX11_keeps_104 (fun r_93 H locs er_93 hP hD hS => ?_)
            have hG := GX.wR hG hSH hT_w_92 rfl er_93 (rg_w (rg_k (0 : Int32) 0 rfl) (by decide)) (by decide)
            refine lv_iload hx hb dX11_keeps_105 (lv_at hl 0 rfl) ?_
            refine lv_aload_n hx hb dX11_keeps_107 rfl (lv_at hl 2 rfl) ?_
            refine pg_f (v := .ref this_trial) (C := RX11) (T := TX11) (N := 5) hx hb hts (tw_i inlX11) hown hK hP hL_this hK_this (by decide) rfl 2 (by decide) (hts _ (tw_c tw_18)) (pq_hv rfl hR_this_trial) dX11_keeps_108 ?_
            refine lv_iload hx hb dX11_keeps_111 (lv_at hl 6 rfl) ?_
            refine lv_iload_n hx hb dX11_keeps_113 rfl (lv_at hl 4 rfl) ?_
            refine pk_i (va_runV (As := [.int a3, .int a1]) (rest := [.int x_70]) ⟨hx, hb, hml, hown, hts⟩ (s_X10_sandBehind l D t σ I_79 J_80 r_93 rj_82 rq_83 H.size tg hSH hG.1 this_trial a3 a1 hL_this_trial hK_this_trial (rg_w f_46 (by decide)) (rg_w f_29 (by decide))) (cwV 2 hts (tw_V tw_1415 tw_1416 tw_1417 tw_15 tw_1418) rfl rfl rfl cv_yX10_sandBehind_2 ⟨Nat.le_of_ble_eq_true rfl, Nat.le_of_ble_eq_true rfl⟩) ⟨pq_blind, pq_recv hK hP hL_this_trial hK_this_trial (by decide) rfl, pq_pre hK hN hP hD⟩ rfl rfl hl.1 rfl (lv_room (Nat.le_of_ble_eq_true rfl)) dX11_keeps_114 ⟨Nat.le_of_ble_eq_true rfl, Nat.le_of_ble_eq_true rfl⟩) hD hS hA (fun x_94 σ1 μ1 H locs hw_95 hP hD hS => ?_)
            obtain ⟨I_96, ri_97, hu_98, hg_99⟩ := hw_95
            obtain ⟨hu_98a, hu_98b⟩ := Prod.mk.inj hu_98
            rw [hu_98a, hu_98b] at hP hD
            have hG := GX.tr hG hg_99 (by decide)
            refine lv_isub hx hb dX11_keeps_117 ?_
            refine lv_topi (fun x_101 ex_101 => ?_)
            subst hQ
            exact W.iret (v := x_101) hx hb hr (fun t1 ht hW => ⟨⟨x_101, (σ, I_96, J_80, ri_97, rj_82, rq_83), rfl, ⟨I_96, J_80, ri_97, rj_82, rq_83, rfl, hG, (fo_t (fo_t (fo_t (fo_t fo_rf (fo_u hp_67)) (fo_c hg_75 (by decide))) (fo_u hp_88)) (fo_c hg_99 (by decide))), (fr_tt (fr_tt (fr_tt (fr_tt (fr_tt fr_rf (fr_u hp_68)) (fr_c hg_75 (by decide))) (fr_u hp_89)) (fr_st er_93 hT_w_92 (by decide))) (fr_c hg_99 (by decide)))⟩, by rw [ht]; exact hP, va_K.moved hW.alike hK, hD⟩, hS.F ht⟩) hS.2.2 dX11_keeps_118
          · have tc_102 : (x_53).toInt = 0 := congrArg Int32.toInt c_54
            have h_103 : rg x_53 0 0 := rg_and (rg_full _) (rg_of_eq c_54 (rg_k (0 : Int32) 0 rfl)) (by decide)
            have uh_103 := h_103.1
            have vh_103 := h_103.2
            refine lv_ldc hx hb hown (hts _ (tw_c tw_269)) dX11_keeps_55 ?_
            subst hQ
            exact W.iret (v := (-1000000)) hx hb hr (fun t1 ht hW => ⟨⟨(-1000000), (σ, I, J, ri, rj, rq), rfl, ⟨I, J, ri, rj, rq, rfl, hG, fo_rf, fr_rf⟩, by rw [ht]; exact hP, va_K.moved hW.alike hK, hD⟩, hS.F ht⟩) hS.2.2 dX11_keeps_57
  exact go _ _ _ hP hD hS hl

set_option maxHeartbeats 4000000 in
set_option maxRecDepth 100000 in
theorem s_X5_foresee_w (l : Launch) (D : va_G) (t : pq_T) (σ : pq_S) (I : Nat → Nat → Int32) (J : Nat → Nat → Int64) (ri : Nat → Nat → Int32) (rj : Nat → Nat → Int64) (rq : Nat → Nat → Option Nat) (sz : Nat) (tg : Nat → Nat) (hSH : SH σ tg) (hG0 : GS tg σ I ri rq) (this : Nat) (a0 : Nat) (a1 : Int32) (a2 : Int32) (hL_this : this ∈ σ.1) (hK_this : σ.2.1 this = 5) (hL_a0 : a0 ∈ σ.1) (hK_a0 : σ.2.1 a0 = 10) (h_a2 : rg a2 0 12) (hclk : (I 320 a0).toInt + a2.toInt ≤ 600) : MetV l yX5_foresee (wa yX5_foresee cX5_foresee 7 none) ({ frames := 5, cells := 0, slots := 0, locals := 143 }) [.ref this, .ref a0, .int a1, .int a2] D t σ (I, J, ri, rj, rq) sz 0 0 (fun (u : pq_S × pq_M) => ∃ I' : Nat → Nat → Int32, ∃ J' : Nat → Nat → Int64, ∃ ri' : Nat → Nat → Int32, ∃ rj' : Nat → Nat → Int64, u = (σ, I', J', ri', rj', rq) ∧ GX [1074, 1073, 320] tg σ I ri rj I' ri' rj' rq ∧ (FO σ a0 I I')) := by
  refine Met.ofW (cc := cX5_foresee) (maxL := 7) (ret := none) (by decide) rfl ?_
  intro p e s m args below meth c s₁ B hml hv
  obtain ⟨rfl, hsz, hP, hK, hD0, hN⟩ := hv
  have hx := B.exec
  have hb := B.bytes
  have hr := B.returns
  have hts := atoms_spec (ws := (wa yX5_foresee cX5_foresee 7 none)) B.pre
  have hown : s.vm.findClass RX5 = some m.cls := findClass_of_methodNamed B.named
  have hlocks := B.notSynchronized
  subst hsz
  have hD : va_D (pq_B t σ (I, J, ri, rj, rq) s.heap.size) (pq_P t σ (I, J, ri, rj, rq)) := hD0.self
  generalize hAe : pq_B t σ (I, J, ri, rj, rq) s.heap.size = A at hD ⊢
  have hA : ∀ q : Nat, s.heap.size ≤ q → A q := fun q h => by rw [← hAe]; exact Or.inr h
  have hS : va_S A s.heap s.heap [] := va_S.rf
  have hG : GX [1074, 1073, 320] tg σ I ri rj I ri rj rq := ⟨hG0, fun _ _ _ => rfl, fun _ _ _ _ _ => rfl, fun _ _ _ _ _ => rfl⟩
  have hl := lv_entry ([.ref this, .ref a0, .int a1, .int a2]) (n := 7) (Nat.le_of_ble_eq_true rfl)
  rw [lg_entry_eq]
  generalize (lg_sl ([.ref this, .ref a0, .int a1, .int a2]) ++ List.replicate (7 - (lg_sl ([.ref this, .ref a0, .int a1, .int a2])).length) Slot.unset).toArray = ls at hl ⊢
  have hl : lv_has ls 7 [(0, .ref this), (1, .ref a0), (2, .int a1), (3, .int a2)] := hl
  refine q_gen (fun Q hQ => ?_)
  have go : ∀ (H : Heap) (locs : List Loc) (ls : Array Slot), va_P D vwCl (pq_P t σ (I, J, ri, rj, rq)) H → va_D A (pq_P t σ (I, J, ri, rj, rq)) → va_S A s.heap H locs → lv_has ls 7 [(0, .ref this), (1, .ref a0), (2, .int a1), (3, .int a2)] → W p l e ({ frames := 5, cells := 0, slots := 0, locals := 143 } : Room) s m (List.toArray ([.ref this, .ref a0, .int a1, .int a2] : List Value)) below meth c H locs 0 0 Q (F0 m 0 ls []) := by
    intro H locs ls hP hD hS hl
    refine lv_aload_n hx hb dX5_foresee_0 rfl (lv_at hl 1 rfl) ?_
    obtain ⟨w_1, hR_w_1, hL_w_1, hK_w_1⟩ := sh_o hSH 328 (ci := 10) (kd := 0) rfl hL_a0 hK_a0
    refine pg_f (v := .ref w_1) (C := RX10) (T := TX10) (N := 13) hx hb hts (tw_i inlX10) hown hK hP hL_a0 hK_a0 (by decide) rfl 8 (by decide) (hts _ (tw_c tw_1446)) (pq_hv rfl hR_w_1) dX5_foresee_1 ?_
    refine pk_l (va_runV (As := []) (rest := []) ⟨hx, hb, hml, hown, hts⟩ (s_X0_onRings l D t σ I J ri rj rq H.size tg hSH hG.1 w_1 hL_w_1 hK_w_1) (cwV 0 hts (tw_V tw_1450 tw_1163 tw_1164 tw_45 tw_1165) rfl rfl rfl cv_yX0_onRings_0 ⟨Nat.le_of_ble_eq_true rfl, Nat.le_of_ble_eq_true rfl⟩) ⟨pq_blind, pq_recv hK hP hL_w_1 hK_w_1 (by decide) rfl, pq_pre hK hN hP hD⟩ rfl rfl hl.1 rfl (lv_room (Nat.le_of_ble_eq_true rfl)) dX5_foresee_4 ⟨Nat.le_of_ble_eq_true rfl, Nat.le_of_ble_eq_true rfl⟩) hD hS hA (fun x_2 σ1 μ1 H locs hw_3 hP hD hS => ?_)
    have hu_4 := hw_3
    obtain ⟨hu_4a, hu_4b⟩ := Prod.mk.inj hu_4
    rw [hu_4a, hu_4b] at hP hD
    refine lv_lstore (lv' := [(4, .long x_2), (0, .ref this), (1, .ref a0), (2, .int a1), (3, .int a2)]) hx hb dX5_foresee_7 hl (by decide) rfl (fun ls hl => ?_)
    refine lv_iconst (v := 0) hx hb dX5_foresee_9 (by decide) ?_
    refine lv_istore (lv' := [(6, .int 0), (4, .long x_2), (0, .ref this), (1, .ref a0), (2, .int a1), (3, .int a2)]) hx hb dX5_foresee_10 hl (by decide) rfl (fun ls hl => ?_)
    have L_573 : ∀ (n_572 : Nat) (x_519 : Int32) (I_520 : Nat → Nat → Int32) (J_521 : Nat → Nat → Int64) (ri_522 : Nat → Nat → Int32) (rj_523 : Nat → Nat → Int64) (H : Heap) (locs : List Loc) (ls : Array Slot), rg x_519 0 12 → ((I_520 320 a0).toInt = (I 320 a0).toInt + (x_519).toInt) → (FO σ a0 I I_520) → (12 - (x_519).toInt).toNat < n_572 → GX [1074, 1073, 320] tg σ I ri rj I_520 ri_522 rj_523 rq → va_P D vwCl (pq_P t σ (I_520, J_521, ri_522, rj_523, rq)) H → va_D A (pq_P t σ (I_520, J_521, ri_522, rj_523, rq)) → va_S A s.heap H locs → lv_has ls 7 [(0, .ref this), (1, .ref a0), (2, .int a1), (3, .int a2), (4, .long x_2), (6, .int x_519)] → W p l e ({ frames := 5, cells := 0, slots := 0, locals := 143 } : Room) s m (List.toArray ([.ref this, .ref a0, .int a1, .int a2] : List Value)) below meth c H locs 0 0 Q (F0 m 12 ls []) := by
      intro n_572
      induction n_572 with
      | zero => intro x_519 I_520 J_521 ri_522 rj_523 H locs ls h_578 hrel_579 hrel_580 hm_571 hG hP hD hS hl; exact absurd hm_571 (Nat.not_lt_zero _)
      | succ n_572 ih_574 =>
        intro x_519 I_520 J_521 ri_522 rj_523 H locs ls h_578 hrel_579 hrel_580 hm_571 hG hP hD hS hl
        have uh_578 := h_578.1
        have vh_578 := h_578.2
        refine lv_iload hx hb dX5_foresee_12 (lv_at hl 5 rfl) ?_
        refine lv_iload_n hx hb dX5_foresee_14 rfl (lv_at hl 3 rfl) ?_
        refine lv_icmp_ge (tgt := 93) hx hb dX5_foresee_15 (by decide) (fun c_581 => ?_) (fun c_581 => ?_)
        · have tc_582 : (a2).toInt ≤ (x_519).toInt := Int32.le_iff_toInt_le.mp c_581
          subst hQ
          exact W.vret hx hb hr (fun t1 ht hW => ⟨⟨(σ, I_520, J_521, ri_522, rj_523, rq), rfl, ⟨I_520, J_521, ri_522, rj_523, rfl, hG, hrel_580⟩, by rw [ht]; exact hP, va_K.moved hW.alike hK, hD⟩, hS.F ht⟩) hS.2.2 dX5_foresee_93
        · have tc_583 : (x_519).toInt < (a2).toInt := Int32.lt_iff_toInt_lt.mp (nle c_581)
          have h_584 : rg x_519 0 11 := rg_lt1 (nle c_581) h_578 h_a2 (by decide)
          have uh_584 := h_584.1
          have vh_584 := h_584.2
          have h_585 : rg a2 1 12 := rg_lt2 (nle c_581) h_578 h_a2 (by decide)
          have uh_585 := h_585.1
          have vh_585 := h_585.2
          refine lv_aload_n hx hb dX5_foresee_18 rfl (lv_at hl 1 rfl) ?_
          refine lv_iload_n hx hb dX5_foresee_19 rfl (lv_at hl 2 rfl) ?_
          refine pk_v (va_runV (As := [.int a1]) (rest := []) ⟨hx, hb, hml, hown, hts⟩ (s_X10_nature l D t σ I_520 J_521 ri_522 rj_523 rq H.size tg hSH hG.1 a0 a1 hL_a0 hK_a0) (cwV 1 hts (tw_V tw_1451 tw_1048 tw_1049 tw_15 tw_1050) rfl rfl rfl cv_yX10_nature_1 ⟨Nat.le_of_ble_eq_true rfl, Nat.le_of_ble_eq_true rfl⟩) ⟨pq_blind, pq_recv hK hP hL_a0 hK_a0 (by decide) rfl, pq_pre hK hN hP hD⟩ rfl rfl hl.1 rfl (lv_room (Nat.le_of_ble_eq_true rfl)) dX5_foresee_20 ⟨Nat.le_of_ble_eq_true rfl, Nat.le_of_ble_eq_true rfl⟩) hD hS hA (fun σ1 μ1 H locs hw_587 hP hD hS => ?_)
          obtain ⟨I_588, J_589, ri_590, rj_591, hu_592, hg_593⟩ := hw_587
          obtain ⟨hu_592a, hu_592b⟩ := Prod.mk.inj hu_592
          rw [hu_592a, hu_592b] at hP hD
          have hG := GX.tr hG hg_593 (by decide)
          have tt_595 : (I_588 320 a0).toInt = (I_520 320 a0).toInt := by rw [hg_593.2.1 320 (by decide) (by decide)]
          refine lv_aload_n hx hb dX5_foresee_23 rfl (lv_at hl 0 rfl) ?_
          obtain ⟨w_596, hR_w_596, hL_w_596, hK_w_596, hN_w_596, hT_w_596⟩ := sh_a hSH 165 (ci := 5) (kd := 14) (len := 12) rfl (by decide) hL_this hK_this
          refine pg_f (v := .ref w_596) (C := RX5) (T := TX5) (N := 8) hx hb hts (tw_i inlX5) hown hK hP hL_this hK_this (by decide) rfl 5 (by decide) (hts _ (tw_c tw_145)) (pq_hv rfl hR_w_596) dX5_foresee_24 ?_
          refine lv_iload hx hb dX5_foresee_27 (lv_at hl 5 rfl) ?_
          refine lv_aload_n hx hb dX5_foresee_29 rfl (lv_at hl 1 rfl) ?_
          obtain ⟨w_597, hR_w_597, hL_w_597, hK_w_597⟩ := sh_o hSH 327 (ci := 10) (kd := 2) rfl hL_a0 hK_a0
          refine pg_f (v := .ref w_597) (C := RX10) (T := TX10) (N := 13) hx hb hts (tw_i inlX10) hown hK hP hL_a0 hK_a0 (by decide) rfl 7 (by decide) (hts _ (tw_c tw_1438)) (pq_hv rfl hR_w_597) dX5_foresee_30 ?_
          refine pg_f (v := .long (J_589 67 w_597)) (C := RX2) (T := TX2) (N := 20) hx hb hts (tw_i inlX2) hown hK hP hL_w_597 hK_w_597 (by decide) rfl 3 (by decide) (hts _ (tw_c tw_1447)) rfl dX5_foresee_33 ?_
          refine pt_l hx hb hK hP hD hS hL_w_596 hK_w_596 hN_w_596 (rg_in h_584 (by decide)) dX5_foresee_36 (fun r_598 H locs er_598 hP hD hS => ?_)
          have hG := GX.wJ hG hT_w_596 er_598 (by decide)
          refine lv_aload_n hx hb dX5_foresee_37 rfl (lv_at hl 1 rfl) ?_
          refine pg_f (v := .ref w_597) (C := RX10) (T := TX10) (N := 13) hx hb hts (tw_i inlX10) hown hK hP hL_a0 hK_a0 (by decide) rfl 7 (by decide) (hts _ (tw_c tw_1438)) (pq_hv rfl hR_w_597) dX5_foresee_38 ?_
          refine lv_aload_n hx hb dX5_foresee_41 rfl (lv_at hl 0 rfl) ?_
          obtain ⟨w_599, hR_w_599, hL_w_599, hK_w_599, hN_w_599, hT_w_599⟩ := sh_a hSH 166 (ci := 5) (kd := 13) (len := 60) rfl (by decide) hL_this hK_this
          refine pg_f (v := .ref w_599) (C := RX5) (T := TX5) (N := 8) hx hb hts (tw_i inlX5) hown hK hP hL_this hK_this (by decide) rfl 6 (by decide) (hts _ (tw_c tw_146)) (pq_hv rfl hR_w_599) dX5_foresee_42 ?_
          refine lv_iload hx hb dX5_foresee_45 (lv_at hl 5 rfl) ?_
          refine lv_iconst (v := 5) hx hb dX5_foresee_47 (by decide) ?_
          refine lv_imul hx hb dX5_foresee_48 ?_
          refine lv_topi (fun x_600 ex_600 => ?_)
          have h_601 : rg x_600 0 55 := rg_of_eq ex_600 (rg_mul h_584 (rg_k (5 : Int32) 5 rfl) (by decide))
          have uh_601 := h_601.1
          have vh_601 := h_601.2
          refine pk_v (va_runV (As := [.ref w_599, .int x_600]) (rest := []) ⟨hx, hb, hml, hown, hts⟩ (s_X2_countBeds_166 l D t σ I_588 J_589 ri_590 r_598 rq H.size tg hSH hG.1 w_597 w_599 x_600 hL_w_597 hK_w_597 hL_w_599 hK_w_599 hN_w_599 hT_w_599 (rg_w h_601 (by decide))) (cwV 2 hts (tw_V tw_1452 tw_1091 tw_1092 tw_41 tw_1093) rfl rfl rfl cv_yX2_countBeds_2 ⟨Nat.le_of_ble_eq_true rfl, Nat.le_of_ble_eq_true rfl⟩) ⟨pq_blind, pq_recv hK hP hL_w_597 hK_w_597 (by decide) rfl, pq_pre hK hN hP hD⟩ rfl rfl hl.1 rfl (lv_room (Nat.le_of_ble_eq_true rfl)) dX5_foresee_49 ⟨Nat.le_of_ble_eq_true rfl, Nat.le_of_ble_eq_true rfl⟩) hD hS hA (fun σ1 μ1 H locs hw_603 hP hD hS => ?_)
          obtain ⟨ri_604, hu_605, hg_606⟩ := hw_603
          obtain ⟨hu_605a, hu_605b⟩ := Prod.mk.inj hu_605
          rw [hu_605a, hu_605b] at hP hD
          have hG := GX.tr hG hg_606 (by decide)
          refine lv_aload_n hx hb dX5_foresee_52 rfl (lv_at hl 0 rfl) ?_
          obtain ⟨w_608, hR_w_608, hL_w_608, hK_w_608, hN_w_608, hT_w_608⟩ := sh_a hSH 167 (ci := 5) (kd := 14) (len := 12) rfl (by decide) hL_this hK_this
          refine pg_f (v := .ref w_608) (C := RX5) (T := TX5) (N := 8) hx hb hts (tw_i inlX5) hown hK hP hL_this hK_this (by decide) rfl 7 (by decide) (hts _ (tw_c tw_147)) (pq_hv rfl hR_w_608) dX5_foresee_53 ?_
          refine lv_iload hx hb dX5_foresee_56 (lv_at hl 5 rfl) ?_
          refine lv_aload_n hx hb dX5_foresee_58 rfl (lv_at hl 1 rfl) ?_
          obtain ⟨w_609, hR_w_609, hL_w_609, hK_w_609⟩ := sh_o hSH 329 (ci := 10) (kd := 3) rfl hL_a0 hK_a0
          refine pg_f (v := .ref w_609) (C := RX10) (T := TX10) (N := 13) hx hb hts (tw_i inlX10) hown hK hP hL_a0 hK_a0 (by decide) rfl 9 (by decide) (hts _ (tw_c tw_1448)) (pq_hv rfl hR_w_609) dX5_foresee_59 ?_
          refine lv_iconst (v := 2) hx hb dX5_foresee_62 (by decide) ?_
          refine lv_aload_n hx hb dX5_foresee_63 rfl (lv_at hl 1 rfl) ?_
          refine pg_f (v := .int (I_588 320 a0)) (C := RX10) (T := TX10) (N := 13) hx hb hts (tw_i inlX10) hown hK hP hL_a0 hK_a0 (by decide) rfl 0 (by decide) (hts _ (tw_c tw_1449)) rfl dX5_foresee_64 ?_
          have h_610 : rg (I_588 320 a0) 0 600 := GX.rI hG 320 rfl
          have uh_610 := h_610.1
          have vh_610 := h_610.2
          refine lv_aload_n hx hb dX5_foresee_67 rfl (lv_at hl 1 rfl) ?_
          refine pg_f (v := .ref w_1) (C := RX10) (T := TX10) (N := 13) hx hb hts (tw_i inlX10) hown hK hP hL_a0 hK_a0 (by decide) rfl 8 (by decide) (hts _ (tw_c tw_1446)) (pq_hv rfl hR_w_1) dX5_foresee_68 ?_
          refine lv_lload hx hb dX5_foresee_71 (lv_at hl 4 rfl) ?_
          refine pk_l (va_runV (As := [.int 2, .int (I_588 320 a0), .ref w_1, .long x_2]) (rest := [.int x_519, .ref w_608]) ⟨hx, hb, hml, hown, hts⟩ (s_X3_whoIsSo l D t σ I_588 J_589 ri_604 r_598 rq H.size tg hSH hG.1 w_609 (2 : Int32) (I_588 320 a0) w_1 x_2 hL_w_609 hK_w_609 hL_w_1 hK_w_1) (cwV 4 hts (tw_V tw_1453 tw_964 tw_965 tw_49 tw_966) rfl rfl rfl cv_yX3_whoIsSo_4 ⟨Nat.le_of_ble_eq_true rfl, Nat.le_of_ble_eq_true rfl⟩) ⟨pq_blind, pq_recv hK hP hL_w_609 hK_w_609 (by decide) rfl, pq_pre hK hN hP hD⟩ rfl rfl hl.1 rfl (lv_room (Nat.le_of_ble_eq_true rfl)) dX5_foresee_73 ⟨Nat.le_of_ble_eq_true rfl, Nat.le_of_ble_eq_true rfl⟩) hD hS hA (fun x_611 σ1 μ1 H locs hw_612 hP hD hS => ?_)
          obtain ⟨ri_613, hu_614, hg_615⟩ := hw_612
          obtain ⟨hu_614a, hu_614b⟩ := Prod.mk.inj hu_614
          rw [hu_614a, hu_614b] at hP hD
          have hG := GX.tr hG hg_615 (by decide)
          refine pt_l hx hb hK hP hD hS hL_w_608 hK_w_608 hN_w_608 (rg_in h_584 (by decide)) dX5_foresee_76 (fun r_617 H locs er_617 hP hD hS => ?_)
          have hG := GX.wJ hG hT_w_608 er_617 (by decide)
          refine lv_aload_n hx hb dX5_foresee_77 rfl (lv_at hl 1 rfl) ?_
          refine lv_dup hx hb dX5_foresee_78 rfl ?_
          refine pg_f (v := .int (I_588 320 a0)) (C := RX10) (T := TX10) (N := 13) hx hb hts (tw_i inlX10) hown hK hP hL_a0 hK_a0 (by decide) rfl 0 (by decide) (hts _ (tw_c tw_1449)) rfl dX5_foresee_79 ?_
          refine lv_iconst (v := 1) hx hb dX5_foresee_82 (by decide) ?_
          refine lv_iadd hx hb dX5_foresee_83 ?_
          refine lv_topi (fun x_618 ex_618 => ?_)
          have h_619 : rg x_618 1 601 := rg_of_eq ex_618 (rg_add h_610 (rg_k (1 : Int32) 1 rfl) (by decide))
          have uh_619 := h_619.1
          have vh_619 := h_619.2
          have tx_618 : (x_618).toInt = (I_588 320 a0).toInt + 1 := by rw [ex_618]; exact i_add_rg (a2 := (I_588 320 a0).toInt) (b2 := 1) rfl rfl h_610 (rg_k (1 : Int32) 1 rfl) (by decide)
          refine pp_i (v := x_618) (ty := .int) (C := RX10) (T := TX10) (N := 13) hx hb hts (tw_i inlX10) tyX10 tyX10_ok nmX10 hown hK hP hD hS hL_a0 hK_a0 (by decide) rfl 0 320 (by decide) (hts _ (tw_c tw_1449)) rfl (tyX10_ok 0 (by decide)) rfl rfl (Nat.le_of_ble_eq_true rfl) (ps_320 _ _ _ _ _) dX5_foresee_84 (fun I_620 H locs eI_620 hP hD hS => ?_)
          have h_621 : rg x_618 1 600 := ⟨by omega, by omega⟩
          have uh_621 := h_621.1
          have vh_621 := h_621.2
          have hG := GX.wI hG 320 rfl eI_620 (rg_w h_621 (by decide)) (by decide)
          have tt_622 : (I_620 320 a0).toInt = (x_618).toInt := by rw [eI_620, pq_us]
          obtain ⟨x_623, ex_623⟩ : ∃ y : Int32, y = x_519 + Int32.ofInt 1 := ⟨_, rfl⟩
          have h_624 : rg x_623 1 12 := rg_of_eq ex_623 (rg_add h_584 (rg_k (Int32.ofInt 1) 1 rfl) (by decide))
          have uh_624 := h_624.1
          have vh_624 := h_624.2
          have tx_623 : (x_623).toInt = (x_519).toInt + 1 := by rw [ex_623]; exact i_add_rg (a2 := (x_519).toInt) (b2 := 1) rfl rfl h_584 (rg_k (Int32.ofInt 1) 1 rfl) (by decide)
          refine lv_iinc (v := x_623) (lv' := [(6, .int x_623), (0, .ref this), (1, .ref a0), (2, .int a1), (3, .int a2), (4, .long x_2)]) hx hb dX5_foresee_87 hl (k := 5) rfl ex_623.symm (by decide) rfl (fun ls hl => ?_)
          refine lv_goto (tgt := 12) hx hb dX5_foresee_90 (by decide) ?_
          exact ih_574 x_623 I_620 J_589 ri_613 r_617 _ _ _ (rg_w h_624 (by decide)) (by omega) (fo_t (fo_t hrel_580 (fo_c hg_593 (by decide))) (fo_p eI_620)) (ms_up 1 hm_571 ex_623 rfl (by decide) h_584 (by decide) (by decide)) hG hP hD hS (lv_sub hl [1, 2, 3, 4, 5, 0] rfl)
    exact L_573 _ (0 : Int32) I J ri rj _ _ _ (rg_w (rg_k (0 : Int32) 0 rfl) (by decide)) (by have k0 : (0 : Int32).toInt = 0 := rfl; omega) fo_rf (Nat.lt_succ_self _) hG hP hD hS (lv_sub hl [2, 3, 4, 5, 1, 0] rfl)
  exact go _ _ _ hP hD hS hl

set_option maxHeartbeats 4000000 in
set_option maxRecDepth 100000 in
theorem s_X9_isAt_w (l : Launch) (D : va_G) (t : pq_T) (σ : pq_S) (I : Nat → Nat → Int32) (J : Nat → Nat → Int64) (ri : Nat → Nat → Int32) (rj : Nat → Nat → Int64) (rq : Nat → Nat → Option Nat) (sz : Nat) (tg : Nat → Nat) (hSH : SH σ tg) (hG0 : GS tg σ I ri rq) (this : Nat) (a0 : Int32) (hL_this : this ∈ σ.1) (hK_this : σ.2.1 this = 9) (h_a0 : rg a0 0 39) (this_gathers : Nat) (hR_this_gathers : σ.2.2.1 288 this = some this_gathers) (hL_this_gathers : this_gathers ∈ σ.1) (hK_this_gathers : σ.2.1 this_gathers = 13) (hN_this_gathers : σ.2.2.2 this_gathers = 40) (hT_this_gathers : tg this_gathers = 288) : MetI l yX9_isAt (wa yX9_isAt cX9_isAt 2 (some .boolean)) ({ frames := 0, cells := 0, slots := 0, locals := 0 }) [.ref this, .int a0] D t σ (I, J, ri, rj, rq) sz 0 0 (fun (r : Int32) (u : pq_S × pq_M) => u = (σ, I, J, ri, rj, rq) ∧ ((r = 1 ∧ (0 < (ri this_gathers (a0).toNatClampNeg).toInt)) ∨ (r = 0 ∧ ((ri this_gathers (a0).toNatClampNeg).toInt ≤ 0)))) := by
  refine Met.ofW (cc := cX9_isAt) (maxL := 2) (ret := (some .boolean)) (by decide) rfl ?_
  intro p e s m args below meth c s₁ B hml hv
  obtain ⟨rfl, hsz, hP, hK, hD0, hN⟩ := hv
  have hx := B.exec
  have hb := B.bytes
  have hr := B.returns
  have hts := atoms_spec (ws := (wa yX9_isAt cX9_isAt 2 (some .boolean))) B.pre
  have hown : s.vm.findClass RX9 = some m.cls := findClass_of_methodNamed B.named
  have hlocks := B.notSynchronized
  subst hsz
  have hD : va_D (pq_B t σ (I, J, ri, rj, rq) s.heap.size) (pq_P t σ (I, J, ri, rj, rq)) := hD0.self
  generalize hAe : pq_B t σ (I, J, ri, rj, rq) s.heap.size = A at hD ⊢
  have hA : ∀ q : Nat, s.heap.size ≤ q → A q := fun q h => by rw [← hAe]; exact Or.inr h
  have hS : va_S A s.heap s.heap [] := va_S.rf
  have hG : GX [] tg σ I ri rj I ri rj rq := ⟨hG0, fun _ _ _ => rfl, fun _ _ _ _ _ => rfl, fun _ _ _ _ _ => rfl⟩
  have hl := lv_entry ([.ref this, .int a0]) (n := 2) (Nat.le_of_ble_eq_true rfl)
  rw [lg_entry_eq]
  generalize (lg_sl ([.ref this, .int a0]) ++ List.replicate (2 - (lg_sl ([.ref this, .int a0])).length) Slot.unset).toArray = ls at hl ⊢
  have hl : lv_has ls 2 [(0, .ref this), (1, .int a0)] := hl
  refine q_gen (fun Q hQ => ?_)
  have go : ∀ (H : Heap) (locs : List Loc) (ls : Array Slot), va_P D vwCl (pq_P t σ (I, J, ri, rj, rq)) H → va_D A (pq_P t σ (I, J, ri, rj, rq)) → va_S A s.heap H locs → lv_has ls 2 [(0, .ref this), (1, .int a0)] → W p l e ({ frames := 0, cells := 0, slots := 0, locals := 0 } : Room) s m (List.toArray ([.ref this, .int a0] : List Value)) below meth c H locs 0 0 Q (F0 m 0 ls []) := by
    intro H locs ls hP hD hS hl
    refine lv_aload_n hx hb dX9_isAt_0 rfl (lv_at hl 0 rfl) ?_
    refine pg_f (v := .ref this_gathers) (C := RX9) (T := TX9) (N := 3) hx hb hts (tw_i inlX9) hown hK hP hL_this hK_this (by decide) rfl 0 (by decide) (hts _ (tw_c tw_104)) (pq_hv rfl hR_this_gathers) dX9_isAt_1 ?_
    refine lv_iload_n hx hb dX9_isAt_4 rfl (lv_at hl 1 rfl) ?_
    refine pl_i hx hb hK hP hL_this_gathers hK_this_gathers hN_this_gathers (rg_in h_a0 (by decide)) dX9_isAt_5 ?_
    refine lv_topi (fun x_1 ex_1 => ?_)
    have ex_1 : x_1 = ri this_gathers (a0).toNatClampNeg := ex_1
    have tt_2 : (x_1).toInt = (ri this_gathers (a0).toNatClampNeg).toInt := congrArg Int32.toInt ex_1
    refine lv_if_le (tgt := 13) hx hb dX9_isAt_6 (by decide) (fun c_3 => ?_) (fun c_3 => ?_)
    · have tc_4 : (x_1).toInt ≤ 0 := Int32.le_iff_toInt_le.mp c_3
      have h_5 : rg x_1 (-2147483648) 0 := rg_le1 c_3 (rg_full _) (rg_k (0 : Int32) 0 rfl) (by decide)
      have uh_5 := h_5.1
      have vh_5 := h_5.2
      refine lv_iconst (v := 0) hx hb dX9_isAt_13 (by decide) ?_
      subst hQ
      exact W.zret (v := 0) hx hb hr (by decide) (fun t1 ht hW => ⟨⟨0, (σ, I, J, ri, rj, rq), rfl, ⟨rfl, (Or.inr ⟨rfl, (by omega)⟩)⟩, by rw [ht]; exact hP, va_K.moved hW.alike hK, hD⟩, hS.F ht⟩) hS.2.2 dX9_isAt_14
    · have tc_6 : 0 < (x_1).toInt := Int32.lt_iff_toInt_lt.mp (nle c_3)
      have h_7 : rg x_1 1 2147483647 := rg_lt2 (nle c_3) (rg_k (0 : Int32) 0 rfl) (rg_full _) (by decide)
      have uh_7 := h_7.1
      have vh_7 := h_7.2
      refine lv_iconst (v := 1) hx hb dX9_isAt_9 (by decide) ?_
      refine lv_goto (tgt := 14) hx hb dX9_isAt_10 (by decide) ?_
      subst hQ
      exact W.zret (v := 1) hx hb hr (by decide) (fun t1 ht hW => ⟨⟨1, (σ, I, J, ri, rj, rq), rfl, ⟨rfl, (Or.inl ⟨rfl, (by omega)⟩)⟩, by rw [ht]; exact hP, va_K.moved hW.alike hK, hD⟩, hS.F ht⟩) hS.2.2 dX9_isAt_14
  exact go _ _ _ hP hD hS hl

set_option maxHeartbeats 4000000 in
set_option maxRecDepth 100000 in
theorem s_X5_lacksOf_w (l : Launch) (D : va_G) (t : pq_T) (σ : pq_S) (I : Nat → Nat → Int32) (J : Nat → Nat → Int64) (ri : Nat → Nat → Int32) (rj : Nat → Nat → Int64) (rq : Nat → Nat → Option Nat) (sz : Nat) (tg : Nat → Nat) (hSH : SH σ tg) (hG0 : GS tg σ I ri rq) (this : Nat) (a0 : Nat) (a1 : Nat) (a2 : Int32) (hL_this : this ∈ σ.1) (hK_this : σ.2.1 this = 5) (hL_a0 : a0 ∈ σ.1) (hK_a0 : σ.2.1 a0 = 10) (hL_a1 : a1 ∈ σ.1) (hK_a1 : σ.2.1 a1 = 10) (h_a2 : rg a2 0 12) : MetI l yX5_lacksOf (wa yX5_lacksOf cX5_lacksOf 7 (some .int)) ({ frames := 4, cells := 0, slots := 0, locals := 105 }) [.ref this, .ref a0, .ref a1, .int a2] D t σ (I, J, ri, rj, rq) sz 0 0 (fun (r : Int32) (u : pq_S × pq_M) => ∃ I' : Nat → Nat → Int32, ∃ ri' : Nat → Nat → Int32, u = (σ, I', J, ri', rj, rq) ∧ GX [1288, 1005] tg σ I ri rj I' ri' rj rq ∧ (FR0 σ tg a1 ri ri')) := by
  refine Met.ofW (cc := cX5_lacksOf) (maxL := 7) (ret := (some .int)) (by decide) rfl ?_
  intro p e s m args below meth c s₁ B hml hv
  obtain ⟨rfl, hsz, hP, hK, hD0, hN⟩ := hv
  have hx := B.exec
  have hb := B.bytes
  have hr := B.returns
  have hts := atoms_spec (ws := (wa yX5_lacksOf cX5_lacksOf 7 (some .int))) B.pre
  have hown : s.vm.findClass RX5 = some m.cls := findClass_of_methodNamed B.named
  have hlocks := B.notSynchronized
  subst hsz
  have hD : va_D (pq_B t σ (I, J, ri, rj, rq) s.heap.size) (pq_P t σ (I, J, ri, rj, rq)) := hD0.self
  generalize hAe : pq_B t σ (I, J, ri, rj, rq) s.heap.size = A at hD ⊢
  have hA : ∀ q : Nat, s.heap.size ≤ q → A q := fun q h => by rw [← hAe]; exact Or.inr h
  have hS : va_S A s.heap s.heap [] := va_S.rf
  have hG : GX [1288, 1005] tg σ I ri rj I ri rj rq := ⟨hG0, fun _ _ _ => rfl, fun _ _ _ _ _ => rfl, fun _ _ _ _ _ => rfl⟩
  have hl := lv_entry ([.ref this, .ref a0, .ref a1, .int a2]) (n := 7) (Nat.le_of_ble_eq_true rfl)
  rw [lg_entry_eq]
  generalize (lg_sl ([.ref this, .ref a0, .ref a1, .int a2]) ++ List.replicate (7 - (lg_sl ([.ref this, .ref a0, .ref a1, .int a2])).length) Slot.unset).toArray = ls at hl ⊢
  have hl : lv_has ls 7 [(0, .ref this), (1, .ref a0), (2, .ref a1), (3, .int a2)] := hl
  refine q_gen (fun Q hQ => ?_)
  have go : ∀ (H : Heap) (locs : List Loc) (ls : Array Slot), va_P D vwCl (pq_P t σ (I, J, ri, rj, rq)) H → va_D A (pq_P t σ (I, J, ri, rj, rq)) → va_S A s.heap H locs → lv_has ls 7 [(0, .ref this), (1, .ref a0), (2, .ref a1), (3, .int a2)] → W p l e ({ frames := 4, cells := 0, slots := 0, locals := 105 } : Room) s m (List.toArray ([.ref this, .ref a0, .ref a1, .int a2] : List Value)) below meth c H locs 0 0 Q (F0 m 0 ls []) := by
    intro H locs ls hP hD hS hl
    refine lv_aload_n hx hb dX5_lacksOf_0 rfl (lv_at hl 2 rfl) ?_
    obtain ⟨w_1, hR_w_1, hL_w_1, hK_w_1⟩ := sh_o hSH 327 (ci := 10) (kd := 2) rfl hL_a1 hK_a1
    refine pg_f (v := .ref w_1) (C := RX10) (T := TX10) (N := 13) hx hb hts (tw_i inlX10) hown hK hP hL_a1 hK_a1 (by decide) rfl 7 (by decide) (hts _ (tw_c tw_1438)) (pq_hv rfl hR_w_1) dX5_lacksOf_1 ?_
    obtain ⟨w_2, hR_w_2, hL_w_2, hK_w_2⟩ := sh_o hSH 78 (ci := 2) (kd := 9) rfl hL_w_1 hK_w_1
    refine pg_f (v := .ref w_2) (C := RX2) (T := TX2) (N := 20) hx hb hts (tw_i inlX2) hown hK hP hL_w_1 hK_w_1 (by decide) rfl 14 (by decide) (hts _ (tw_c tw_1458)) (pq_hv rfl hR_w_2) dX5_lacksOf_4 ?_
    refine lv_aload_n hx hb dX5_lacksOf_7 rfl (lv_at hl 1 rfl) ?_
    obtain ⟨w_3, hR_w_3, hL_w_3, hK_w_3⟩ := sh_o hSH 327 (ci := 10) (kd := 2) rfl hL_a0 hK_a0
    refine pg_f (v := .ref w_3) (C := RX10) (T := TX10) (N := 13) hx hb hts (tw_i inlX10) hown hK hP hL_a0 hK_a0 (by decide) rfl 7 (by decide) (hts _ (tw_c tw_1438)) (pq_hv rfl hR_w_3) dX5_lacksOf_8 ?_
    obtain ⟨w_4, hR_w_4, hL_w_4, hK_w_4⟩ := sh_o hSH 78 (ci := 2) (kd := 9) rfl hL_w_3 hK_w_3
    refine pg_f (v := .ref w_4) (C := RX2) (T := TX2) (N := 20) hx hb hts (tw_i inlX2) hown hK hP hL_w_3 hK_w_3 (by decide) rfl 14 (by decide) (hts _ (tw_c tw_1458)) (pq_hv rfl hR_w_4) dX5_lacksOf_11 ?_
    obtain ⟨w_5, hR_w_5, hL_w_5, hK_w_5, hN_w_5, hT_w_5⟩ := sh_a hSH 288 (ci := 9) (kd := 13) (len := 40) rfl (by decide) hL_w_2 hK_w_2
    obtain ⟨w_6, hR_w_6, hL_w_6, hK_w_6, hN_w_6, hT_w_6⟩ := sh_a hSH 288 (ci := 9) (kd := 13) (len := 40) rfl (by decide) hL_w_4 hK_w_4
    refine pk_v (va_runV (As := [.ref w_4]) (rest := []) ⟨hx, hb, hml, hown, hts⟩ (s_X9_copyFrom_w l D t σ I J ri rj rq H.size tg hSH hG.1 w_2 w_4 hL_w_2 hK_w_2 hL_w_4 hK_w_4 w_5 hR_w_5 hL_w_5 hK_w_5 hN_w_5 hT_w_5 w_6 hR_w_6 hL_w_6 hK_w_6 hN_w_6 hT_w_6) (cwV 1 hts (tw_V tw_1465 tw_1377 tw_1378 tw_94 tw_1379) rfl rfl rfl cv_yX9_copyFrom_1 ⟨Nat.le_of_ble_eq_true rfl, Nat.le_of_ble_eq_true rfl⟩) ⟨pq_blind, pq_recv hK hP hL_w_2 hK_w_2 (by decide) rfl, pq_pre hK hN hP hD⟩ rfl rfl hl.1 rfl (lv_room (Nat.le_of_ble_eq_true rfl)) dX5_lacksOf_14 ⟨Nat.le_of_ble_eq_true rfl, Nat.le_of_ble_eq_true rfl⟩) hD hS hA (fun σ1 μ1 H locs hw_8 hP hD hS => ?_)
    obtain ⟨ri_9, hu_10, hg_11, hp_13⟩ := hw_8
    obtain ⟨hu_10a, hu_10b⟩ := Prod.mk.inj hu_10
    rw [hu_10a, hu_10b] at hP hD
    have hG := GX.tr hG hg_11 (by decide)
    refine lv_aload_n hx hb dX5_lacksOf_17 rfl (lv_at hl 1 rfl) ?_
    obtain ⟨w_14, hR_w_14, hL_w_14, hK_w_14⟩ := sh_o hSH 328 (ci := 10) (kd := 0) rfl hL_a0 hK_a0
    refine pg_f (v := .ref w_14) (C := RX10) (T := TX10) (N := 13) hx hb hts (tw_i inlX10) hown hK hP hL_a0 hK_a0 (by decide) rfl 8 (by decide) (hts _ (tw_c tw_1446)) (pq_hv rfl hR_w_14) dX5_lacksOf_18 ?_
    obtain ⟨w_15, hR_w_15, hL_w_15, hK_w_15, hN_w_15, hT_w_15⟩ := sh_a hSH 5 (ci := 0) (kd := 13) (len := 40) rfl (by decide) hL_w_14 hK_w_14
    refine pg_f (v := .ref w_15) (C := RX0) (T := TX0) (N := 16) hx hb hts (tw_i inlX0) hown hK hP hL_w_14 hK_w_14 (by decide) rfl 5 (by decide) (hts _ (tw_c tw_1459)) (pq_hv rfl hR_w_15) dX5_lacksOf_21 ?_
    refine lv_aload_n hx hb dX5_lacksOf_24 rfl (lv_at hl 2 rfl) ?_
    obtain ⟨w_16, hR_w_16, hL_w_16, hK_w_16⟩ := sh_o hSH 328 (ci := 10) (kd := 0) rfl hL_a1 hK_a1
    refine pg_f (v := .ref w_16) (C := RX10) (T := TX10) (N := 13) hx hb hts (tw_i inlX10) hown hK hP hL_a1 hK_a1 (by decide) rfl 8 (by decide) (hts _ (tw_c tw_1446)) (pq_hv rfl hR_w_16) dX5_lacksOf_25 ?_
    obtain ⟨w_17, hR_w_17, hL_w_17, hK_w_17, hN_w_17, hT_w_17⟩ := sh_a hSH 5 (ci := 0) (kd := 13) (len := 40) rfl (by decide) hL_w_16 hK_w_16
    refine pg_f (v := .ref w_17) (C := RX0) (T := TX0) (N := 16) hx hb hts (tw_i inlX0) hown hK hP hL_w_16 hK_w_16 (by decide) rfl 5 (by decide) (hts _ (tw_c tw_1459)) (pq_hv rfl hR_w_17) dX5_lacksOf_28 ?_
    refine pk_v (va_runSN (As := [.ref w_15, .ref w_17]) (rest := []) ⟨hx, hb, hml, hown, hts⟩ (s_X11_copy_5_5 l D t σ I J ri_9 rj rq H.size tg hSH hG.1 w_15 w_17 hL_w_15 hK_w_15 hN_w_15 hT_w_15 hL_w_17 hK_w_17 hN_w_17 hT_w_17) ⟨va_cnB (host := "RingsUnder") 2 hts (tw_W tw_1102) rfl rfl rfl (nl_23 hN) (hts _ (tw_c tw_2)) cd_yX11_copy_2 ⟨Nat.le_of_ble_eq_true rfl, Nat.le_of_ble_eq_true rfl⟩, hts (.static yX11_copy) (tw_c tq_static_yX11_copy), trivial⟩ ⟨pq_blind, pq_pre hK hN hP hD⟩ rfl rfl hl.1 rfl (lv_room (Nat.le_of_ble_eq_true rfl)) dX5_lacksOf_31 ⟨Nat.le_of_ble_eq_true rfl, Nat.le_of_ble_eq_true rfl⟩) hD hS hA (fun σ1 μ1 H locs hw_19 hP hD hS => ?_)
    obtain ⟨ri_20, hu_21, hg_22, hp_24, hp_25⟩ := hw_19
    obtain ⟨hu_21a, hu_21b⟩ := Prod.mk.inj hu_21
    rw [hu_21a, hu_21b] at hP hD
    have hG := GX.tr hG hg_22 (by decide)
    refine lv_aload_n hx hb dX5_lacksOf_34 rfl (lv_at hl 0 rfl) ?_
    refine lv_aload_n hx hb dX5_lacksOf_35 rfl (lv_at hl 1 rfl) ?_
    refine pg_f (v := .ref w_14) (C := RX10) (T := TX10) (N := 13) hx hb hts (tw_i inlX10) hown hK hP hL_a0 hK_a0 (by decide) rfl 8 (by decide) (hts _ (tw_c tw_1446)) (pq_hv rfl hR_w_14) dX5_lacksOf_36 ?_
    refine lv_aload_n hx hb dX5_lacksOf_39 rfl (lv_at hl 1 rfl) ?_
    refine pg_f (v := .ref w_3) (C := RX10) (T := TX10) (N := 13) hx hb hts (tw_i inlX10) hown hK hP hL_a0 hK_a0 (by decide) rfl 7 (by decide) (hts _ (tw_c tw_1438)) (pq_hv rfl hR_w_3) dX5_lacksOf_40 ?_
    refine pg_f (v := .int (I 64 w_3)) (C := RX2) (T := TX2) (N := 20) hx hb hts (tw_i inlX2) hown hK hP hL_w_3 hK_w_3 (by decide) rfl 0 (by decide) (hts _ (tw_c tw_1439)) rfl dX5_lacksOf_43 ?_
    have h_26 : rg (I 64 w_3) 0 5 := GX.rI hG 64 rfl
    refine pk_v (va_runV (As := [.ref w_14, .int (I 64 w_3)]) (rest := []) ⟨hx, hb, hml, hown, hts⟩ (s_X5_lineUp l D t σ I J ri_20 rj rq H.size tg hSH hG.1 this w_14 (I 64 w_3) hL_this hK_this hL_w_14 hK_w_14 (rg_w h_26 (by decide))) (cwV 2 hts (tw_V tw_1466 tw_1467 tw_1468 tw_21 tw_1469) rfl rfl rfl cv_yX5_lineUp_2 ⟨Nat.le_of_ble_eq_true rfl, Nat.le_of_ble_eq_true rfl⟩) ⟨pq_blind, pq_recv hK hP hL_this hK_this (by decide) rfl, pq_pre hK hN hP hD⟩ rfl rfl hl.1 rfl (lv_room (Nat.le_of_ble_eq_true rfl)) dX5_lacksOf_46 ⟨Nat.le_of_ble_eq_true rfl, Nat.le_of_ble_eq_true rfl⟩) hD hS hA (fun σ1 μ1 H locs hw_28 hP hD hS => ?_)
    obtain ⟨I_29, ri_30, hu_31, hg_32⟩ := hw_28
    obtain ⟨hu_31a, hu_31b⟩ := Prod.mk.inj hu_31
    rw [hu_31a, hu_31b] at hP hD
    have hG := GX.tr hG hg_32 (by decide)
    refine lv_iconst (v := 0) hx hb dX5_lacksOf_49 (by decide) ?_
    refine lv_istore (lv' := [(4, .int 0), (0, .ref this), (1, .ref a0), (2, .ref a1), (3, .int a2)]) hx hb dX5_lacksOf_50 hl (by decide) rfl (fun ls hl => ?_)
    refine lv_iconst (v := 0) hx hb dX5_lacksOf_52 (by decide) ?_
    refine lv_istore (lv' := [(5, .int 0), (4, .int 0), (0, .ref this), (1, .ref a0), (2, .ref a1), (3, .int a2)]) hx hb dX5_lacksOf_53 hl (by decide) rfl (fun ls hl => ?_)
    have L_726 : ∀ (n_725 : Nat) (x_661 : Int32) (x_662 : Int32) (ri_663 : Nat → Nat → Int32) (H : Heap) (locs : List Loc) (ls : Array Slot), rg x_662 0 12 → (FR0 σ tg a1 ri ri_663) → (12 - (x_662).toInt).toNat < n_725 → GX [1288, 1005] tg σ I ri rj I_29 ri_663 rj rq → va_P D vwCl (pq_P t σ (I_29, J, ri_663, rj, rq)) H → va_D A (pq_P t σ (I_29, J, ri_663, rj, rq)) → va_S A s.heap H locs → lv_has ls 7 [(0, .ref this), (1, .ref a0), (2, .ref a1), (3, .int a2), (4, .int x_661), (5, .int x_662)] → W p l e ({ frames := 4, cells := 0, slots := 0, locals := 105 } : Room) s m (List.toArray ([.ref this, .ref a0, .ref a1, .int a2] : List Value)) below meth c H locs 0 0 Q (F0 m 55 ls []) := by
      intro n_725
      induction n_725 with
      | zero => intro x_661 x_662 ri_663 H locs ls h_730 hrel_731 hm_724 hG hP hD hS hl; exact absurd hm_724 (Nat.not_lt_zero _)
      | succ n_725 ih_727 =>
        intro x_661 x_662 ri_663 H locs ls h_730 hrel_731 hm_724 hG hP hD hS hl
        refine lv_iload hx hb dX5_lacksOf_55 (lv_at hl 5 rfl) ?_
        refine lv_iload_n hx hb dX5_lacksOf_57 rfl (lv_at hl 3 rfl) ?_
        have K_790 : ∀  (H : Heap) (locs : List Loc) (ls : Array Slot), (FR0 σ tg a1 ri ri_663) → GX [1288, 1005] tg σ I ri rj I_29 ri_663 rj rq → va_P D vwCl (pq_P t σ (I_29, J, ri_663, rj, rq)) H → va_D A (pq_P t σ (I_29, J, ri_663, rj, rq)) → va_S A s.heap H locs → lv_has ls 7 [(4, .int x_661)] → W p l e ({ frames := 4, cells := 0, slots := 0, locals := 105 } : Room) s m (List.toArray ([.ref this, .ref a0, .ref a1, .int a2] : List Value)) below meth c H locs 0 0 Q (F0 m 193 ls []) := by
          intro H locs ls hrel_792 hG hP hD hS hl
          refine lv_iload hx hb dX5_lacksOf_193 (lv_at hl 0 rfl) ?_
          subst hQ
          exact W.iret (v := x_661) hx hb hr (fun t1 ht hW => ⟨⟨x_661, (σ, I_29, J, ri_663, rj, rq), rfl, ⟨I_29, ri_663, rfl, hG, hrel_792⟩, by rw [ht]; exact hP, va_K.moved hW.alike hK, hD⟩, hS.F ht⟩) hS.2.2 dX5_lacksOf_195
        refine lv_icmp_ge (tgt := 193) hx hb dX5_lacksOf_58 (by decide) (fun c_793 => ?_) (fun c_793 => ?_)
        · exact K_790 _ _ _ hrel_731 hG hP hD hS (lv_sub hl [4] rfl)
        · have h_794 : rg x_662 0 11 := rg_lt1 (nle c_793) h_730 h_a2 (by decide)
          have h_795 : rg a2 1 12 := rg_lt2 (nle c_793) h_730 h_a2 (by decide)
          refine lv_iload hx hb dX5_lacksOf_61 (lv_at hl 4 rfl) ?_
          refine lv_aload_n hx hb dX5_lacksOf_63 rfl (lv_at hl 0 rfl) ?_
          refine pg_f (v := .int (I_29 160 this)) (C := RX5) (T := TX5) (N := 8) hx hb hts (tw_i inlX5) hown hK hP hL_this hK_this (by decide) rfl 0 (by decide) (hts _ (tw_c tw_1441)) rfl dX5_lacksOf_64 ?_
          refine lv_icmp_ge (tgt := 193) hx hb dX5_lacksOf_67 (by decide) (fun c_796 => ?_) (fun c_796 => ?_)
          · exact K_790 _ _ _ hrel_731 hG hP hD hS (lv_sub hl [4] rfl)
          · have h_797 : rg x_661 (-2147483648) 2147483646 := rg_lt1 (nle c_796) (rg_full _) (rg_full _) (by decide)
            have h_798 : rg (I_29 160 this) (-2147483647) 2147483647 := rg_lt2 (nle c_796) (rg_full _) (rg_full _) (by decide)
            refine lv_aload_n hx hb dX5_lacksOf_70 rfl (lv_at hl 1 rfl) ?_
            refine pg_f (v := .int (I_29 320 a0)) (C := RX10) (T := TX10) (N := 13) hx hb hts (tw_i inlX10) hown hK hP hL_a0 hK_a0 (by decide) rfl 0 (by decide) (hts _ (tw_c tw_1449)) rfl dX5_lacksOf_71 ?_
            have h_799 : rg (I_29 320 a0) 0 600 := GX.rI hG 320 rfl
            refine lv_iload hx hb dX5_lacksOf_74 (lv_at hl 5 rfl) ?_
            refine lv_iadd hx hb dX5_lacksOf_76 ?_
            refine lv_topi (fun x_800 ex_800 => ?_)
            have h_801 : rg x_800 0 611 := rg_of_eq ex_800 (rg_add h_799 h_794 (by decide))
            refine lv_istore (lv' := [(6, .int x_800), (0, .ref this), (1, .ref a0), (2, .ref a1), (3, .int a2), (4, .int x_661), (5, .int x_662)]) hx hb dX5_lacksOf_77 hl (by decide) rfl (fun ls hl => ?_)
            refine lv_aload_n hx hb dX5_lacksOf_79 rfl (lv_at hl 3 rfl) ?_
            refine pg_f (v := .ref w_1) (C := RX10) (T := TX10) (N := 13) hx hb hts (tw_i inlX10) hown hK hP hL_a1 hK_a1 (by decide) rfl 7 (by decide) (hts _ (tw_c tw_1438)) (pq_hv rfl hR_w_1) dX5_lacksOf_80 ?_
            refine pg_f (v := .ref w_2) (C := RX2) (T := TX2) (N := 20) hx hb hts (tw_i inlX2) hown hK hP hL_w_1 hK_w_1 (by decide) rfl 14 (by decide) (hts _ (tw_c tw_1458)) (pq_hv rfl hR_w_2) dX5_lacksOf_83 ?_
            refine lv_aload_n hx hb dX5_lacksOf_86 rfl (lv_at hl 3 rfl) ?_
            refine pg_f (v := .ref w_1) (C := RX10) (T := TX10) (N := 13) hx hb hts (tw_i inlX10) hown hK hP hL_a1 hK_a1 (by decide) rfl 7 (by decide) (hts _ (tw_c tw_1438)) (pq_hv rfl hR_w_1) dX5_lacksOf_87 ?_
            refine pg_f (v := .int (I_29 65 w_1)) (C := RX2) (T := TX2) (N := 20) hx hb hts (tw_i inlX2) hown hK hP hL_w_1 hK_w_1 (by decide) rfl 1 (by decide) (hts _ (tw_c tw_1460)) rfl dX5_lacksOf_90 ?_
            have h_802 : rg (I_29 65 w_1) 0 40 := GX.rI hG 65 rfl
            refine lv_aload_n hx hb dX5_lacksOf_93 rfl (lv_at hl 1 rfl) ?_
            obtain ⟨w_803, hR_w_803, hL_w_803, hK_w_803, hN_w_803, hT_w_803⟩ := sh_a hSH 165 (ci := 5) (kd := 14) (len := 12) rfl (by decide) hL_this hK_this
            refine pg_f (v := .ref w_803) (C := RX5) (T := TX5) (N := 8) hx hb hts (tw_i inlX5) hown hK hP hL_this hK_this (by decide) rfl 5 (by decide) (hts _ (tw_c tw_145)) (pq_hv rfl hR_w_803) dX5_lacksOf_94 ?_
            refine lv_iload hx hb dX5_lacksOf_97 (lv_at hl 6 rfl) ?_
            refine pl_l hx hb hK hP hL_w_803 hK_w_803 hN_w_803 (rg_in h_794 (by decide)) dX5_lacksOf_99 ?_
            refine lv_topl (fun x_804 ex_804 => ?_)
            refine lv_aload_n hx hb dX5_lacksOf_100 rfl (lv_at hl 2 rfl) ?_
            obtain ⟨w_805, hR_w_805, hL_w_805, hK_w_805⟩ := sh_o hSH 326 (ci := 10) (kd := 7) rfl hL_a0 hK_a0
            refine pg_f (v := .ref w_805) (C := RX10) (T := TX10) (N := 13) hx hb hts (tw_i inlX10) hown hK hP hL_a0 hK_a0 (by decide) rfl 6 (by decide) (hts _ (tw_c tw_1461)) (pq_hv rfl hR_w_805) dX5_lacksOf_101 ?_
            obtain ⟨w_806, hR_w_806, hL_w_806, hK_w_806, hN_w_806, hT_w_806⟩ := sh_a hSH 233 (ci := 7) (kd := 13) (len := 12) rfl (by decide) hL_w_805 hK_w_805
            refine pg_f (v := .ref w_806) (C := RX7) (T := TX7) (N := 15) hx hb hts (tw_i inlX7) hown hK hP hL_w_805 hK_w_805 (by decide) rfl 9 (by decide) (hts _ (tw_c tw_1462)) (pq_hv rfl hR_w_806) dX5_lacksOf_104 ?_
            refine lv_iload hx hb dX5_lacksOf_107 (lv_at hl 0 rfl) ?_
            refine lv_bipush (v := 12) hx hb dX5_lacksOf_109 (by decide) ?_
            refine lv_irem hx hb dX5_lacksOf_111 (by decide) ?_
            refine lv_topi (fun x_807 ex_807 => ?_)
            have h_808 : rg x_807 0 11 := rg_of_eq ex_807 (rg_rem h_801 rfl (by decide))
            refine pl_i hx hb hK hP hL_w_806 hK_w_806 hN_w_806 (rg_in h_808 (by decide)) dX5_lacksOf_112 ?_
            refine lv_topi (fun x_809 ex_809 => ?_)
            refine pk_v (va_runV (As := [.int (I_29 65 w_1), .long x_804, .int x_809]) (rest := []) ⟨hx, hb, hml, hown, hts⟩ (s_X9_fillUp l D t σ I_29 J ri_663 rj rq H.size tg hSH hG.1 w_2 (I_29 65 w_1) x_804 x_809 hL_w_2 hK_w_2 (rg_w h_802 (by decide))) (cwV 3 hts (tw_V tw_1471 tw_1084 tw_1085 tw_94 tw_1086) rfl rfl rfl cv_yX9_fillUp_3 ⟨Nat.le_of_ble_eq_true rfl, Nat.le_of_ble_eq_true rfl⟩) ⟨pq_blind, pq_recv hK hP hL_w_2 hK_w_2 (by decide) rfl, pq_pre hK hN hP hD⟩ rfl rfl hl.1 rfl (lv_room (Nat.le_of_ble_eq_true rfl)) dX5_lacksOf_113 ⟨Nat.le_of_ble_eq_true rfl, Nat.le_of_ble_eq_true rfl⟩) hD hS hA (fun σ1 μ1 H locs hw_811 hP hD hS => ?_)
            obtain ⟨ri_812, hu_813, hg_814⟩ := hw_811
            obtain ⟨hu_813a, hu_813b⟩ := Prod.mk.inj hu_813
            rw [hu_813a, hu_813b] at hP hD
            have hG := GX.tr hG hg_814 (by decide)
            refine lv_iload hx hb dX5_lacksOf_116 (lv_at hl 5 rfl) ?_
            refine lv_aload_n hx hb dX5_lacksOf_118 rfl (lv_at hl 3 rfl) ?_
            refine pg_f (v := .ref w_16) (C := RX10) (T := TX10) (N := 13) hx hb hts (tw_i inlX10) hown hK hP hL_a1 hK_a1 (by decide) rfl 8 (by decide) (hts _ (tw_c tw_1446)) (pq_hv rfl hR_w_16) dX5_lacksOf_119 ?_
            refine lv_aload_n hx hb dX5_lacksOf_122 rfl (lv_at hl 3 rfl) ?_
            refine pg_f (v := .ref w_1) (C := RX10) (T := TX10) (N := 13) hx hb hts (tw_i inlX10) hown hK hP hL_a1 hK_a1 (by decide) rfl 7 (by decide) (hts _ (tw_c tw_1438)) (pq_hv rfl hR_w_1) dX5_lacksOf_123 ?_
            refine pk_i (va_runV (As := [.ref w_1]) (rest := [.int x_661]) ⟨hx, hb, hml, hown, hts⟩ (s_X0_drink l D t σ I_29 J ri_812 rj rq H.size tg hSH hG.1 w_16 w_1 hL_w_16 hK_w_16 hL_w_1 hK_w_1) (cwV 1 hts (tw_V tw_1472 tw_1095 tw_1096 tw_45 tw_1097) rfl rfl rfl cv_yX0_drink_1 ⟨Nat.le_of_ble_eq_true rfl, Nat.le_of_ble_eq_true rfl⟩) ⟨pq_blind, pq_recv hK hP hL_w_16 hK_w_16 (by decide) rfl, pq_pre hK hN hP hD⟩ rfl rfl hl.1 rfl (lv_room (Nat.le_of_ble_eq_true rfl)) dX5_lacksOf_126 ⟨Nat.le_of_ble_eq_true rfl, Nat.le_of_ble_eq_true rfl⟩) hD hS hA (fun x_816 σ1 μ1 H locs hw_817 hP hD hS => ?_)
            obtain ⟨ri_818, hu_819, hg_820⟩ := hw_817
            obtain ⟨hu_819a, hu_819b⟩ := Prod.mk.inj hu_819
            rw [hu_819a, hu_819b] at hP hD
            have hG := GX.tr hG hg_820 (by decide)
            refine lv_iadd hx hb dX5_lacksOf_129 ?_
            refine lv_topi (fun x_822 ex_822 => ?_)
            refine lv_istore (lv' := [(4, .int x_822), (6, .int x_800), (0, .ref this), (1, .ref a0), (2, .ref a1), (3, .int a2), (5, .int x_662)]) hx hb dX5_lacksOf_130 hl (by decide) rfl (fun ls hl => ?_)
            refine lv_iload hx hb dX5_lacksOf_132 (lv_at hl 0 rfl) ?_
            refine lv_aload_n hx hb dX5_lacksOf_134 rfl (lv_at hl 4 rfl) ?_
            refine pg_f (v := .ref w_16) (C := RX10) (T := TX10) (N := 13) hx hb hts (tw_i inlX10) hown hK hP hL_a1 hK_a1 (by decide) rfl 8 (by decide) (hts _ (tw_c tw_1446)) (pq_hv rfl hR_w_16) dX5_lacksOf_135 ?_
            refine lv_aload_n hx hb dX5_lacksOf_138 rfl (lv_at hl 2 rfl) ?_
            obtain ⟨w_823, hR_w_823, hL_w_823, hK_w_823, hN_w_823, hT_w_823⟩ := sh_a hSH 166 (ci := 5) (kd := 13) (len := 60) rfl (by decide) hL_this hK_this
            refine pg_f (v := .ref w_823) (C := RX5) (T := TX5) (N := 8) hx hb hts (tw_i inlX5) hown hK hP hL_this hK_this (by decide) rfl 6 (by decide) (hts _ (tw_c tw_146)) (pq_hv rfl hR_w_823) dX5_lacksOf_139 ?_
            refine lv_iload hx hb dX5_lacksOf_142 (lv_at hl 6 rfl) ?_
            refine lv_iconst (v := 5) hx hb dX5_lacksOf_144 (by decide) ?_
            refine lv_imul hx hb dX5_lacksOf_145 ?_
            refine lv_topi (fun x_824 ex_824 => ?_)
            have h_825 : rg x_824 0 55 := rg_of_eq ex_824 (rg_mul h_794 (rg_k (5 : Int32) 5 rfl) (by decide))
            refine pk_i (va_runV (As := [.ref w_823, .int x_824]) (rest := [.int x_822]) ⟨hx, hb, hml, hown, hts⟩ (s_X0_sleep_166 l D t σ I_29 J ri_818 rj rq H.size tg hSH hG.1 w_16 w_823 x_824 hL_w_16 hK_w_16 hL_w_823 hK_w_823 hN_w_823 hT_w_823 (rg_w h_825 (by decide))) (cwV 2 hts (tw_V tw_1473 tw_1121 tw_1122 tw_45 tw_1123) rfl rfl rfl cv_yX0_sleep_2 ⟨Nat.le_of_ble_eq_true rfl, Nat.le_of_ble_eq_true rfl⟩) ⟨pq_blind, pq_recv hK hP hL_w_16 hK_w_16 (by decide) rfl, pq_pre hK hN hP hD⟩ rfl rfl hl.1 rfl (lv_room (Nat.le_of_ble_eq_true rfl)) dX5_lacksOf_146 ⟨Nat.le_of_ble_eq_true rfl, Nat.le_of_ble_eq_true rfl⟩) hD hS hA (fun x_826 σ1 μ1 H locs hw_827 hP hD hS => ?_)
            obtain ⟨ri_828, hu_829, hg_830⟩ := hw_827
            obtain ⟨hu_829a, hu_829b⟩ := Prod.mk.inj hu_829
            rw [hu_829a, hu_829b] at hP hD
            have hG := GX.tr hG hg_830 (by decide)
            refine lv_iadd hx hb dX5_lacksOf_149 ?_
            refine lv_topi (fun x_832 ex_832 => ?_)
            refine lv_istore (lv' := [(4, .int x_832), (6, .int x_800), (0, .ref this), (1, .ref a0), (2, .ref a1), (3, .int a2), (5, .int x_662)]) hx hb dX5_lacksOf_150 hl (by decide) rfl (fun ls hl => ?_)
            refine lv_aload_n hx hb dX5_lacksOf_152 rfl (lv_at hl 3 rfl) ?_
            refine pg_f (v := .int (I_29 322 a0)) (C := RX10) (T := TX10) (N := 13) hx hb hts (tw_i inlX10) hown hK hP hL_a0 hK_a0 (by decide) rfl 2 (by decide) (hts _ (tw_c tw_1463)) rfl dX5_lacksOf_153 ?_
            have K_850 : ∀  (ri_846 : Nat → Nat → Int32) (H : Heap) (locs : List Loc) (ls : Array Slot), (FR0 σ tg a1 ri ri_846) → GX [1288, 1005] tg σ I ri rj I_29 ri_846 rj rq → va_P D vwCl (pq_P t σ (I_29, J, ri_846, rj, rq)) H → va_D A (pq_P t σ (I_29, J, ri_846, rj, rq)) → va_S A s.heap H locs → lv_has ls 7 [(0, .ref this), (1, .ref a0), (2, .ref a1), (3, .int a2), (4, .int x_832), (5, .int x_662)] → W p l e ({ frames := 4, cells := 0, slots := 0, locals := 105 } : Room) s m (List.toArray ([.ref this, .ref a0, .ref a1, .int a2] : List Value)) below meth c H locs 0 0 Q (F0 m 187 ls []) := by
              intro ri_846 H locs ls hrel_852 hG hP hD hS hl
              obtain ⟨x_853, ex_853⟩ : ∃ y : Int32, y = x_662 + Int32.ofInt 1 := ⟨_, rfl⟩
              have h_854 : rg x_853 1 12 := rg_of_eq ex_853 (rg_add h_794 (rg_k (Int32.ofInt 1) 1 rfl) (by decide))
              refine lv_iinc (v := x_853) (lv' := [(5, .int x_853), (0, .ref this), (1, .ref a0), (2, .ref a1), (3, .int a2), (4, .int x_832)]) hx hb dX5_lacksOf_187 hl (k := 5) rfl ex_853.symm (by decide) rfl (fun ls hl => ?_)
              refine lv_goto (tgt := 55) hx hb dX5_lacksOf_190 (by decide) ?_
              exact ih_727 x_832 x_853 ri_846 _ _ _ (rg_w h_854 (by decide)) hrel_852 (ms_up 1 hm_724 ex_853 rfl (by decide) h_794 (by decide) (by decide)) hG hP hD hS (lv_sub hl [1, 2, 3, 4, 5, 0] rfl)
            refine lv_if_le (tgt := 187) hx hb dX5_lacksOf_156 (by decide) (fun c_855 => ?_) (fun c_855 => ?_)
            · have h_856 : rg (I_29 322 a0) (-2147483648) 0 := rg_le1 c_855 (rg_full _) (rg_k (0 : Int32) 0 rfl) (by decide)
              exact K_850 ri_828 _ _ _ (fr_tt (fr_tt (fr_tt hrel_731 (fr_c hg_814 (by decide))) (fr_c hg_820 (by decide))) (fr_c hg_830 (by decide))) hG hP hD hS (lv_sub hl [2, 3, 4, 5, 0, 6] rfl)
            · have h_857 : rg (I_29 322 a0) 1 2147483647 := rg_lt2 (nle c_855) (rg_k (0 : Int32) 0 rfl) (rg_full _) (by decide)
              refine lv_aload_n hx hb dX5_lacksOf_159 rfl (lv_at hl 4 rfl) ?_
              refine pg_f (v := .ref w_16) (C := RX10) (T := TX10) (N := 13) hx hb hts (tw_i inlX10) hown hK hP hL_a1 hK_a1 (by decide) rfl 8 (by decide) (hts _ (tw_c tw_1446)) (pq_hv rfl hR_w_16) dX5_lacksOf_160 ?_
              refine lv_aload_n hx hb dX5_lacksOf_163 rfl (lv_at hl 2 rfl) ?_
              obtain ⟨w_858, hR_w_858, hL_w_858, hK_w_858, hN_w_858, hT_w_858⟩ := sh_a hSH 167 (ci := 5) (kd := 14) (len := 12) rfl (by decide) hL_this hK_this
              refine pg_f (v := .ref w_858) (C := RX5) (T := TX5) (N := 8) hx hb hts (tw_i inlX5) hown hK hP hL_this hK_this (by decide) rfl 7 (by decide) (hts _ (tw_c tw_147)) (pq_hv rfl hR_w_858) dX5_lacksOf_164 ?_
              refine lv_iload hx hb dX5_lacksOf_167 (lv_at hl 6 rfl) ?_
              refine pl_l hx hb hK hP hL_w_858 hK_w_858 hN_w_858 (rg_in h_794 (by decide)) dX5_lacksOf_169 ?_
              refine lv_topl (fun x_859 ex_859 => ?_)
              refine lv_aload_n hx hb dX5_lacksOf_170 rfl (lv_at hl 2 rfl) ?_
              obtain ⟨w_860, hR_w_860, hL_w_860, hK_w_860, hN_w_860, hT_w_860⟩ := sh_a hSH 163 (ci := 5) (kd := 13) (len := 40) rfl (by decide) hL_this hK_this
              refine pg_f (v := .ref w_860) (C := RX5) (T := TX5) (N := 8) hx hb hts (tw_i inlX5) hown hK hP hL_this hK_this (by decide) rfl 3 (by decide) (hts _ (tw_c tw_144)) (pq_hv rfl hR_w_860) dX5_lacksOf_171 ?_
              refine lv_aload_n hx hb dX5_lacksOf_174 rfl (lv_at hl 2 rfl) ?_
              refine pg_f (v := .int (I_29 164 this)) (C := RX5) (T := TX5) (N := 8) hx hb hts (tw_i inlX5) hown hK hP hL_this hK_this (by decide) rfl 4 (by decide) (hts _ (tw_c tw_1464)) rfl dX5_lacksOf_175 ?_
              have h_861 : rg (I_29 164 this) 0 40 := GX.rI hG 164 rfl
              refine lv_aload_n hx hb dX5_lacksOf_178 rfl (lv_at hl 3 rfl) ?_
              refine pg_f (v := .int (I_29 322 a0)) (C := RX10) (T := TX10) (N := 13) hx hb hts (tw_i inlX10) hown hK hP hL_a0 hK_a0 (by decide) rfl 2 (by decide) (hts _ (tw_c tw_1463)) rfl dX5_lacksOf_179 ?_
              refine lv_iload hx hb dX5_lacksOf_182 (lv_at hl 1 rfl) ?_
              refine pk_v (va_runV (As := [.long x_859, .ref w_860, .int (I_29 164 this), .int (I_29 322 a0), .int x_800]) (rest := []) ⟨hx, hb, hml, hown, hts⟩ (s_X0_board_163 l D t σ I_29 J ri_828 rj rq H.size tg hSH hG.1 w_16 x_859 w_860 (I_29 164 this) (I_29 322 a0) x_800 hL_w_16 hK_w_16 hL_w_860 hK_w_860 hN_w_860 hT_w_860) (cwV 5 hts (tw_V tw_1474 tw_1168 tw_1169 tw_45 tw_1170) rfl rfl rfl cv_yX0_board_5 ⟨Nat.le_of_ble_eq_true rfl, Nat.le_of_ble_eq_true rfl⟩) ⟨pq_blind, pq_recv hK hP hL_w_16 hK_w_16 (by decide) rfl, pq_pre hK hN hP hD⟩ rfl rfl hl.1 rfl (lv_room (Nat.le_of_ble_eq_true rfl)) dX5_lacksOf_184 ⟨Nat.le_of_ble_eq_true rfl, Nat.le_of_ble_eq_true rfl⟩) hD hS hA (fun σ1 μ1 H locs hw_863 hP hD hS => ?_)
              obtain ⟨ri_864, hu_865, hg_866⟩ := hw_863
              obtain ⟨hu_865a, hu_865b⟩ := Prod.mk.inj hu_865
              rw [hu_865a, hu_865b] at hP hD
              have hG := GX.tr hG hg_866 (by decide)
              exact K_850 ri_864 _ _ _ (fr_tt (fr_tt (fr_tt (fr_tt hrel_731 (fr_c hg_814 (by decide))) (fr_c hg_820 (by decide))) (fr_c hg_830 (by decide))) (fr_c hg_866 (by decide))) hG hP hD hS (lv_sub hl [2, 3, 4, 5, 0, 6] rfl)
    exact L_726 _ (0 : Int32) (0 : Int32) ri_30 _ _ _ (rg_w (rg_k (0 : Int32) 0 rfl) (by decide)) (fr_tt (fr_tt (fr_tt fr_rf (fr_rc hp_13 (orow_288 hR_w_1 hR_w_2 hR_w_5) (rid_c hg_11 (by decide)))) (fr_c hg_22 (by decide))) (fr_c hg_32 (by decide))) (Nat.lt_succ_self _) hG hP hD hS (lv_sub hl [2, 3, 4, 5, 1, 0] rfl)
  exact go _ _ _ hP hD hS hl

set_option maxHeartbeats 4000000 in
set_option maxRecDepth 100000 in
theorem s_X5_seek_w (l : Launch) (D : va_G) (t : pq_T) (σ : pq_S) (I : Nat → Nat → Int32) (J : Nat → Nat → Int64) (ri : Nat → Nat → Int32) (rj : Nat → Nat → Int64) (rq : Nat → Nat → Option Nat) (sz : Nat) (tg : Nat → Nat) (hSH : SH σ tg) (hG0 : GS tg σ I ri rq) (this : Nat) (a0 : Nat) (a1 : Nat) (a2 : Int32) (a3 : Int32) (hL_this : this ∈ σ.1) (hK_this : σ.2.1 this = 5) (hL_a0 : a0 ∈ σ.1) (hK_a0 : σ.2.1 a0 = 10) (hL_a1 : a1 ∈ σ.1) (hK_a1 : σ.2.1 a1 = 10) (h_a3 : rg a3 1 12) (hclk : (I 320 a1).toInt + a3.toInt ≤ 600) : MetV l yX5_seek (wa yX5_seek cX5_seek 9 none) ({ frames := 6, cells := 0, slots := 0, locals := 169 }) [.ref this, .ref a0, .ref a1, .int a2, .int a3] D t σ (I, J, ri, rj, rq) sz 0 0 (fun (u : pq_S × pq_M) => ∃ I' : Nat → Nat → Int32, ∃ J' : Nat → Nat → Int64, ∃ ri' : Nat → Nat → Int32, ∃ rj' : Nat → Nat → Int64, u = (σ, I', J', ri', rj', rq) ∧ GX [1074, 1073, 320, 1288, 1005] tg σ I ri rj I' ri' rj' rq ∧ (FO σ a1 I I') ∧ (FR0 σ tg a1 ri ri')) := by
  refine Met.ofW (cc := cX5_seek) (maxL := 9) (ret := none) (by decide) rfl ?_
  intro p e s m args below meth c s₁ B hml hv
  obtain ⟨rfl, hsz, hP, hK, hD0, hN⟩ := hv
  have hx := B.exec
  have hb := B.bytes
  have hr := B.returns
  have hts := atoms_spec (ws := (wa yX5_seek cX5_seek 9 none)) B.pre
  have hown : s.vm.findClass RX5 = some m.cls := findClass_of_methodNamed B.named
  have hlocks := B.notSynchronized
  subst hsz
  have hD : va_D (pq_B t σ (I, J, ri, rj, rq) s.heap.size) (pq_P t σ (I, J, ri, rj, rq)) := hD0.self
  generalize hAe : pq_B t σ (I, J, ri, rj, rq) s.heap.size = A at hD ⊢
  have hA : ∀ q : Nat, s.heap.size ≤ q → A q := fun q h => by rw [← hAe]; exact Or.inr h
  have hS : va_S A s.heap s.heap [] := va_S.rf
  have hG : GX [1074, 1073, 320, 1288, 1005] tg σ I ri rj I ri rj rq := ⟨hG0, fun _ _ _ => rfl, fun _ _ _ _ _ => rfl, fun _ _ _ _ _ => rfl⟩
  have hl := lv_entry ([.ref this, .ref a0, .ref a1, .int a2, .int a3]) (n := 9) (Nat.le_of_ble_eq_true rfl)
  rw [lg_entry_eq]
  generalize (lg_sl ([.ref this, .ref a0, .ref a1, .int a2, .int a3]) ++ List.replicate (9 - (lg_sl ([.ref this, .ref a0, .ref a1, .int a2, .int a3])).length) Slot.unset).toArray = ls at hl ⊢
  have hl : lv_has ls 9 [(0, .ref this), (1, .ref a0), (2, .ref a1), (3, .int a2), (4, .int a3)] := hl
  refine q_gen (fun Q hQ => ?_)
  have go : ∀ (H : Heap) (locs : List Loc) (ls : Array Slot), va_P D vwCl (pq_P t σ (I, J, ri, rj, rq)) H → va_D A (pq_P t σ (I, J, ri, rj, rq)) → va_S A s.heap H locs → lv_has ls 9 [(0, .ref this), (1, .ref a0), (2, .ref a1), (3, .int a2), (4, .int a3)] → W p l e ({ frames := 6, cells := 0, slots := 0, locals := 169 } : Room) s m (List.toArray ([.ref this, .ref a0, .ref a1, .int a2, .int a3] : List Value)) below meth c H locs 0 0 Q (F0 m 0 ls []) := by
    intro H locs ls hP hD hS hl
    refine lv_aload_n hx hb dX5_seek_0 rfl (lv_at hl 1 rfl) ?_
    obtain ⟨w_1, hR_w_1, hL_w_1, hK_w_1⟩ := sh_o hSH 327 (ci := 10) (kd := 2) rfl hL_a0 hK_a0
    refine pg_f (v := .ref w_1) (C := RX10) (T := TX10) (N := 13) hx hb hts (tw_i inlX10) hown hK hP hL_a0 hK_a0 (by decide) rfl 7 (by decide) (hts _ (tw_c tw_1438)) (pq_hv rfl hR_w_1) dX5_seek_1 ?_
    refine pg_f (v := .int (I 64 w_1)) (C := RX2) (T := TX2) (N := 20) hx hb hts (tw_i inlX2) hown hK hP hL_w_1 hK_w_1 (by decide) rfl 0 (by decide) (hts _ (tw_c tw_1439)) rfl dX5_seek_4 ?_
    have h_2 : rg (I 64 w_1) 0 5 := GX.rI hG 64 rfl
    have uh_2 := h_2.1
    have vh_2 := h_2.2
    refine lv_istore (lv' := [(5, .int (I 64 w_1)), (0, .ref this), (1, .ref a0), (2, .ref a1), (3, .int a2), (4, .int a3)]) hx hb dX5_seek_7 hl (by decide) rfl (fun ls hl => ?_)
    refine lv_aload_n hx hb dX5_seek_9 rfl (lv_at hl 1 rfl) ?_
    refine lv_aload_n hx hb dX5_seek_10 rfl (lv_at hl 3 rfl) ?_
    refine lv_iload_n hx hb dX5_seek_11 rfl (lv_at hl 4 rfl) ?_
    refine lv_iload hx hb dX5_seek_12 (lv_at hl 5 rfl) ?_
    refine lv_bipush (v := 12) hx hb dX5_seek_14 (by decide) ?_
    refine va_mmin hx hb (hml.trans hl.1.symm) hown (hts _ (tw_c tw_1440)) (hts _ (tw_c tw_467)) (hts _ (tw_c tw_276)) (hts _ (tw_c tw_468)) (Nat.le_of_ble_eq_true rfl) (Nat.le_of_ble_eq_true rfl) (Nat.zero_le _) (Nat.zero_le _) dX5_seek_16 ?_
    refine lv_topi (fun x_3 ex_3 => ?_)
    have h_4 : rg x_3 1 12 := rg_of_eq ex_3 (rg_min2 h_a3 (rg_k (12 : Int32) 12 rfl) (by decide))
    have uh_4 := h_4.1
    have vh_4 := h_4.2
    have tx_3 : (x_3).toInt ≤ (a3).toInt ∧ (x_3).toInt ≤ 12 := by rw [ex_3]; exact min_le _ _
    refine pk_v (va_runV (As := [.ref a1, .int a2, .int x_3]) (rest := []) ⟨hx, hb, hml, hown, hts⟩ (s_X5_foresee_w l D t σ I J ri rj rq H.size tg hSH hG.1 this a1 a2 x_3 hL_this hK_this hL_a1 hK_a1 (rg_w h_4 (by decide)) (by omega)) (cwV 3 hts (tw_V tw_1442 tw_1443 tw_1444 tw_21 tw_1445) rfl rfl rfl cv_yX5_foresee_3 ⟨Nat.le_of_ble_eq_true rfl, Nat.le_of_ble_eq_true rfl⟩) ⟨pq_blind, pq_recv hK hP hL_this hK_this (by decide) rfl, pq_pre hK hN hP hD⟩ rfl rfl hl.1 rfl (lv_room (Nat.le_of_ble_eq_true rfl)) dX5_seek_19 ⟨Nat.le_of_ble_eq_true rfl, Nat.le_of_ble_eq_true rfl⟩) hD hS hA (fun σ1 μ1 H locs hw_6 hP hD hS => ?_)
    obtain ⟨I_7, J_8, ri_9, rj_10, hu_11, hg_12, hp_14⟩ := hw_6
    obtain ⟨hu_11a, hu_11b⟩ := Prod.mk.inj hu_11
    rw [hu_11a, hu_11b] at hP hD
    have hG := GX.tr hG hg_12 (by decide)
    refine lv_iconst (v := 0) hx hb dX5_seek_22 (by decide) ?_
    refine lv_istore (lv' := [(6, .int 0), (5, .int (I 64 w_1)), (0, .ref this), (1, .ref a0), (2, .ref a1), (3, .int a2), (4, .int a3)]) hx hb dX5_seek_23 hl (by decide) rfl (fun ls hl => ?_)
    have L_7623 : ∀ (n_7622 : Nat) (x_6534 : Int32) (ri_6535 : Nat → Nat → Int32) (H : Heap) (locs : List Loc) (ls : Array Slot), rg x_6534 0 5 → (FO σ a1 I I_7) → (FR0 σ tg a1 ri ri_6535) → (5 - (x_6534).toInt).toNat < n_7622 → GX [1074, 1073, 320, 1288, 1005] tg σ I ri rj I_7 ri_6535 rj_10 rq → va_P D vwCl (pq_P t σ (I_7, J_8, ri_6535, rj_10, rq)) H → va_D A (pq_P t σ (I_7, J_8, ri_6535, rj_10, rq)) → va_S A s.heap H locs → lv_has ls 9 [(0, .ref this), (1, .ref a0), (2, .ref a1), (4, .int a3), (5, .int (I 64 w_1)), (6, .int x_6534)] → W p l e ({ frames := 6, cells := 0, slots := 0, locals := 169 } : Room) s m (List.toArray ([.ref this, .ref a0, .ref a1, .int a2, .int a3] : List Value)) below meth c H locs 0 0 Q (F0 m 25 ls []) := by
      intro n_7622
      induction n_7622 with
      | zero => intro x_6534 ri_6535 H locs ls h_7628 hrel_7629 hrel_7630 hm_7621 hG hP hD hS hl; exact absurd hm_7621 (Nat.not_lt_zero _)
      | succ n_7622 ih_7624 =>
        intro x_6534 ri_6535 H locs ls h_7628 hrel_7629 hrel_7630 hm_7621 hG hP hD hS hl
        have uh_7628 := h_7628.1
        have vh_7628 := h_7628.2
        refine lv_iload hx hb dX5_seek_25 (lv_at hl 5 rfl) ?_
        refine lv_iload hx hb dX5_seek_27 (lv_at hl 4 rfl) ?_
        refine lv_icmp_ge (tgt := 47) hx hb dX5_seek_29 (by decide) (fun c_7631 => ?_) (fun c_7631 => ?_)
        · have tc_7632 : (I 64 w_1).toInt ≤ (x_6534).toInt := Int32.le_iff_toInt_le.mp c_7631
          refine lv_aload_n hx hb dX5_seek_47 rfl (lv_at hl 0 rfl) ?_
          refine lv_sipush (v := 961) hx hb dX5_seek_48 (by decide) ?_
          refine pp_i (v := 961) (ty := .int) (C := RX5) (T := TX5) (N := 8) hx hb hts (tw_i inlX5) tyX5 tyX5_ok nmX5 hown hK hP hD hS hL_this hK_this (by decide) rfl 0 160 (by decide) (hts _ (tw_c tw_1441)) rfl (tyX5_ok 0 (by decide)) rfl rfl (Nat.le_of_ble_eq_true rfl) (ps_160 _ _ _ _ _) dX5_seek_51 (fun I_7633 H locs eI_7633 hP hD hS => ?_)
          have hG := GX.wI hG 160 rfl eI_7633 (rg_w (rg_k (961 : Int32) 961 rfl) (by decide)) (by decide)
          refine lv_iconst (v := 1) hx hb dX5_seek_54 (by decide) ?_
          refine lv_istore (lv' := [(6, .int 1), (0, .ref this), (1, .ref a0), (2, .ref a1), (4, .int a3), (5, .int (I 64 w_1))]) hx hb dX5_seek_55 hl (by decide) rfl (fun ls hl => ?_)
          refine lv_iconst (v := 0) hx hb dX5_seek_57 (by decide) ?_
          refine lv_istore (lv' := [(7, .int 0), (6, .int 1), (0, .ref this), (1, .ref a0), (2, .ref a1), (4, .int a3), (5, .int (I 64 w_1))]) hx hb dX5_seek_58 hl (by decide) rfl (fun ls hl => ?_)
          have L_8648 : ∀ (n_8647 : Nat) (x_8584 : Int32) (x_8585 : Int32) (I_8586 : Nat → Nat → Int32) (ri_8587 : Nat → Nat → Int32) (H : Heap) (locs : List Loc) (ls : Array Slot), rg x_8584 0 1 → rg x_8585 0 120 → (FO σ a1 I I_8586) → (FR0 σ tg a1 ri ri_8587) → (120 - (x_8585).toInt).toNat < n_8647 → GX [1074, 1073, 320, 1288, 1005] tg σ I ri rj I_8586 ri_8587 rj_10 rq → va_P D vwCl (pq_P t σ (I_8586, J_8, ri_8587, rj_10, rq)) H → va_D A (pq_P t σ (I_8586, J_8, ri_8587, rj_10, rq)) → va_S A s.heap H locs → lv_has ls 9 [(0, .ref this), (1, .ref a0), (2, .ref a1), (4, .int a3), (5, .int (I 64 w_1)), (6, .int x_8584), (7, .int x_8585)] → W p l e ({ frames := 6, cells := 0, slots := 0, locals := 169 } : Room) s m (List.toArray ([.ref this, .ref a0, .ref a1, .int a2, .int a3] : List Value)) below meth c H locs 0 0 Q (F0 m 60 ls []) := by
            intro n_8647
            induction n_8647 with
            | zero => intro x_8584 x_8585 I_8586 ri_8587 H locs ls h_8654 h_8655 hrel_8656 hrel_8657 hm_8646 hG hP hD hS hl; exact absurd hm_8646 (Nat.not_lt_zero _)
            | succ n_8647 ih_8649 =>
              intro x_8584 x_8585 I_8586 ri_8587 H locs ls h_8654 h_8655 hrel_8656 hrel_8657 hm_8646 hG hP hD hS hl
              have uh_8654 := h_8654.1
              have vh_8654 := h_8654.2
              have uh_8655 := h_8655.1
              have vh_8655 := h_8655.2
              refine lv_iload hx hb dX5_seek_60 (lv_at hl 6 rfl) ?_
              refine lv_bipush (v := 120) hx hb dX5_seek_62 (by decide) ?_
              refine lv_icmp_ge (tgt := 127) hx hb dX5_seek_64 (by decide) (fun c_8658 => ?_) (fun c_8658 => ?_)
              · have tc_8659 : 120 ≤ (x_8585).toInt := Int32.le_iff_toInt_le.mp c_8658
                have h_8660 : rg x_8585 120 120 := rg_le2 c_8658 (rg_k (120 : Int32) 120 rfl) h_8655 (by decide)
                have uh_8660 := h_8660.1
                have vh_8660 := h_8660.2
                subst hQ
                exact W.vret hx hb hr (fun t1 ht hW => ⟨⟨(σ, I_8586, J_8, ri_8587, rj_10, rq), rfl, ⟨I_8586, J_8, ri_8587, rj_10, rfl, hG, hrel_8656, hrel_8657⟩, by rw [ht]; exact hP, va_K.moved hW.alike hK, hD⟩, hS.F ht⟩) hS.2.2 dX5_seek_127
              · have tc_8661 : (x_8585).toInt < 120 := Int32.lt_iff_toInt_lt.mp (nle c_8658)
                have h_8662 : rg x_8585 0 119 := rg_lt1 (nle c_8658) h_8655 (rg_k (120 : Int32) 120 rfl) (by decide)
                have uh_8662 := h_8662.1
                have vh_8662 := h_8662.2
                refine lv_iload hx hb dX5_seek_67 (lv_at hl 5 rfl) ?_
                refine lv_if_eq (tgt := 127) hx hb dX5_seek_69 (by decide) (fun c_8663 => ?_) (fun c_8663 => ?_)
                · have tc_8664 : (x_8584).toInt = 0 := congrArg Int32.toInt c_8663
                  have h_8665 : rg x_8584 0 0 := rg_and h_8654 (rg_of_eq c_8663 (rg_k (0 : Int32) 0 rfl)) (by decide)
                  have uh_8665 := h_8665.1
                  have vh_8665 := h_8665.2
                  subst hQ
                  exact W.vret hx hb hr (fun t1 ht hW => ⟨⟨(σ, I_8586, J_8, ri_8587, rj_10, rq), rfl, ⟨I_8586, J_8, ri_8587, rj_10, rfl, hG, hrel_8656, hrel_8657⟩, by rw [ht]; exact hP, va_K.moved hW.alike hK, hD⟩, hS.F ht⟩) hS.2.2 dX5_seek_127
                · have tc_8666 : (x_8584).toInt ≠ 0 := fun q => c_8663 (Int32.toInt_inj.mp q)
                  have h_8667 : rg x_8584 1 1 := rg_ne c_8663 h_8654 0 rfl (by decide)
                  have uh_8667 := h_8667.1
                  have vh_8667 := h_8667.2
                  refine lv_aload_n hx hb dX5_seek_72 rfl (lv_at hl 0 rfl) ?_
                  refine lv_aload_n hx hb dX5_seek_73 rfl (lv_at hl 1 rfl) ?_
                  refine lv_aload_n hx hb dX5_seek_74 rfl (lv_at hl 2 rfl) ?_
                  refine lv_iload hx hb dX5_seek_75 (lv_at hl 3 rfl) ?_
                  refine lv_bipush (v := 12) hx hb dX5_seek_77 (by decide) ?_
                  refine va_mmin hx hb (hml.trans hl.1.symm) hown (hts _ (tw_c tw_1440)) (hts _ (tw_c tw_467)) (hts _ (tw_c tw_276)) (hts _ (tw_c tw_468)) (Nat.le_of_ble_eq_true rfl) (Nat.le_of_ble_eq_true rfl) (Nat.zero_le _) (Nat.zero_le _) dX5_seek_79 ?_
                  refine lv_topi (fun x_8668 ex_8668 => ?_)
                  have h_8669 : rg x_8668 1 12 := rg_of_eq ex_8668 (rg_min2 h_a3 (rg_k (12 : Int32) 12 rfl) (by decide))
                  have uh_8669 := h_8669.1
                  have vh_8669 := h_8669.2
                  have tx_8668 : (x_8668).toInt ≤ (a3).toInt ∧ (x_8668).toInt ≤ 12 := by rw [ex_8668]; exact min_le _ _
                  refine pk_i (va_runV (As := [.ref a0, .ref a1, .int x_8668]) (rest := []) ⟨hx, hb, hml, hown, hts⟩ (s_X5_lacksOf_w l D t σ I_8586 J_8 ri_8587 rj_10 rq H.size tg hSH hG.1 this a0 a1 x_8668 hL_this hK_this hL_a0 hK_a0 hL_a1 hK_a1 (rg_w h_8669 (by decide))) (cwV 3 hts (tw_V tw_1454 tw_1455 tw_1456 tw_21 tw_1457) rfl rfl rfl cv_yX5_lacksOf_3 ⟨Nat.le_of_ble_eq_true rfl, Nat.le_of_ble_eq_true rfl⟩) ⟨pq_blind, pq_recv hK hP hL_this hK_this (by decide) rfl, pq_pre hK hN hP hD⟩ rfl rfl hl.1 rfl (lv_room (Nat.le_of_ble_eq_true rfl)) dX5_seek_82 ⟨Nat.le_of_ble_eq_true rfl, Nat.le_of_ble_eq_true rfl⟩) hD hS hA (fun x_8670 σ1 μ1 H locs hw_8671 hP hD hS => ?_)
                  obtain ⟨I_8672, ri_8673, hu_8674, hg_8675, hp_8677⟩ := hw_8671
                  obtain ⟨hu_8674a, hu_8674b⟩ := Prod.mk.inj hu_8674
                  rw [hu_8674a, hu_8674b] at hP hD
                  have hG := GX.tr hG hg_8675 (by decide)
                  refine lv_istore (lv' := [(8, .int x_8670), (0, .ref this), (1, .ref a0), (2, .ref a1), (4, .int a3), (5, .int (I 64 w_1)), (6, .int x_8584), (7, .int x_8585)]) hx hb dX5_seek_85 hl (by decide) rfl (fun ls hl => ?_)
                  refine lv_iload hx hb dX5_seek_87 (lv_at hl 0 rfl) ?_
                  refine lv_aload_n hx hb dX5_seek_89 rfl (lv_at hl 1 rfl) ?_
                  refine pg_f (v := .int (I_8672 160 this)) (C := RX5) (T := TX5) (N := 8) hx hb hts (tw_i inlX5) hown hK hP hL_this hK_this (by decide) rfl 0 (by decide) (hts _ (tw_c tw_1441)) rfl dX5_seek_90 ?_
                  refine lv_icmp_ge (tgt := 113) hx hb dX5_seek_93 (by decide) (fun c_8678 => ?_) (fun c_8678 => ?_)
                  · have tc_8679 : (I_8672 160 this).toInt ≤ (x_8670).toInt := Int32.le_iff_toInt_le.mp c_8678
                    refine lv_aload_n hx hb dX5_seek_113 rfl (lv_at hl 1 rfl) ?_
                    refine lv_iload hx hb dX5_seek_114 (lv_at hl 5 rfl) ?_
                    refine pk_i (va_runV (As := [.int (I 64 w_1)]) (rest := []) ⟨hx, hb, hml, hown, hts⟩ (s_X5_toNextOrder l D t σ I_8672 J_8 ri_8673 rj_10 rq H.size tg hSH hG.1 this (I 64 w_1) hL_this hK_this (rg_w h_2 (by decide))) (cwV 1 hts (tw_V tw_1475 tw_1476 tw_1477 tw_21 tw_1478) rfl rfl rfl cv_yX5_toNextOrder_1 ⟨Nat.le_of_ble_eq_true rfl, Nat.le_of_ble_eq_true rfl⟩) ⟨pq_blind, pq_recv hK hP hL_this hK_this (by decide) rfl, pq_pre hK hN hP hD⟩ rfl rfl hl.1 rfl (lv_room (Nat.le_of_ble_eq_true rfl)) dX5_seek_116 ⟨Nat.le_of_ble_eq_true rfl, Nat.le_of_ble_eq_true rfl⟩) hD hS hA (fun x_8680 σ1 μ1 H locs hw_8681 hP hD hS => ?_)
                    obtain ⟨ri_8682, hu_8683, hg_8684, hr_8685⟩ := hw_8681
                    obtain ⟨hu_8683a, hu_8683b⟩ := Prod.mk.inj hu_8683
                    rw [hu_8683a, hu_8683b] at hP hD
                    have hG := GX.tr hG hg_8684 (by decide)
                    have h_8686 : rg x_8680 0 1 := by rcases hr_8685 with ⟨q, -⟩ | ⟨q, -⟩ <;> rw [q] <;> exact ⟨by decide, by decide⟩
                    have uh_8686 := h_8686.1
                    have vh_8686 := h_8686.2
                    refine lv_istore (lv' := [(6, .int x_8680), (8, .int x_8670), (0, .ref this), (1, .ref a0), (2, .ref a1), (4, .int a3), (5, .int (I 64 w_1)), (7, .int x_8585)]) hx hb dX5_seek_119 hl (by decide) rfl (fun ls hl => ?_)
                    obtain ⟨x_8687, ex_8687⟩ : ∃ y : Int32, y = x_8585 + Int32.ofInt 1 := ⟨_, rfl⟩
                    have h_8688 : rg x_8687 1 120 := rg_of_eq ex_8687 (rg_add h_8662 (rg_k (Int32.ofInt 1) 1 rfl) (by decide))
                    have uh_8688 := h_8688.1
                    have vh_8688 := h_8688.2
                    have tx_8687 : (x_8687).toInt = (x_8585).toInt + 1 := by rw [ex_8687]; exact i_add_rg (a2 := (x_8585).toInt) (b2 := 1) rfl rfl h_8662 (rg_k (Int32.ofInt 1) 1 rfl) (by decide)
                    refine lv_iinc (v := x_8687) (lv' := [(7, .int x_8687), (6, .int x_8680), (8, .int x_8670), (0, .ref this), (1, .ref a0), (2, .ref a1), (4, .int a3), (5, .int (I 64 w_1))]) hx hb dX5_seek_121 hl (k := 7) rfl ex_8687.symm (by decide) rfl (fun ls hl => ?_)
                    refine lv_goto (tgt := 60) hx hb dX5_seek_124 (by decide) ?_
                    exact ih_8649 x_8680 x_8687 I_8672 ri_8682 _ _ _ (rg_w h_8686 (by decide)) (rg_w h_8688 (by decide)) (fo_t hrel_8656 (fo_c hg_8675 (by decide))) (fr_tt (fr_tt hrel_8657 hp_8677) (fr_c hg_8684 (by decide))) (ms_up 1 hm_8646 ex_8687 rfl (by decide) h_8662 (by decide) (by decide)) hG hP hD hS (lv_sub hl [3, 4, 5, 6, 7, 1, 0] rfl)
                  · have tc_8689 : (x_8670).toInt < (I_8672 160 this).toInt := Int32.lt_iff_toInt_lt.mp (nle c_8678)
                    have h_8690 : rg x_8670 (-2147483648) 2147483646 := rg_lt1 (nle c_8678) (rg_full _) (rg_full _) (by decide)
                    have uh_8690 := h_8690.1
                    have vh_8690 := h_8690.2
                    have h_8691 : rg (I_8672 160 this) (-2147483647) 2147483647 := rg_lt2 (nle c_8678) (rg_full _) (rg_full _) (by decide)
                    have uh_8691 := h_8691.1
                    have vh_8691 := h_8691.2
                    refine lv_aload_n hx hb dX5_seek_96 rfl (lv_at hl 1 rfl) ?_
                    refine lv_iload hx hb dX5_seek_97 (lv_at hl 0 rfl) ?_
                    refine pp_i (v := x_8670) (ty := .int) (C := RX5) (T := TX5) (N := 8) hx hb hts (tw_i inlX5) tyX5 tyX5_ok nmX5 hown hK hP hD hS hL_this hK_this (by decide) rfl 0 160 (by decide) (hts _ (tw_c tw_1441)) rfl (tyX5_ok 0 (by decide)) rfl rfl (Nat.le_of_ble_eq_true rfl) (ps_160 _ _ _ _ _) dX5_seek_99 (fun I_8692 H locs eI_8692 hP hD hS => ?_)
                    have hG := GX.wI hG 160 rfl eI_8692 (rg_w h_8690 (by decide)) (by decide)
                    refine lv_aload_n hx hb dX5_seek_102 rfl (lv_at hl 1 rfl) ?_
                    obtain ⟨w_8693, hR_w_8693, hL_w_8693, hK_w_8693, hN_w_8693, hT_w_8693⟩ := sh_a hSH 162 (ci := 5) (kd := 13) (len := 5) rfl (by decide) hL_this hK_this
                    refine pg_f (v := .ref w_8693) (C := RX5) (T := TX5) (N := 8) hx hb hts (tw_i inlX5) hown hK hP hL_this hK_this (by decide) rfl 2 (by decide) (hts _ (tw_c tw_143)) (pq_hv rfl hR_w_8693) dX5_seek_103 ?_
                    refine lv_aload_n hx hb dX5_seek_106 rfl (lv_at hl 1 rfl) ?_
                    obtain ⟨w_8694, hR_w_8694, hL_w_8694, hK_w_8694, hN_w_8694, hT_w_8694⟩ := sh_a hSH 161 (ci := 5) (kd := 13) (len := 5) rfl (by decide) hL_this hK_this
                    refine pg_f (v := .ref w_8694) (C := RX5) (T := TX5) (N := 8) hx hb hts (tw_i inlX5) hown hK hP hL_this hK_this (by decide) rfl 1 (by decide) (hts _ (tw_c tw_142)) (pq_hv rfl hR_w_8694) dX5_seek_107 ?_
                    refine pk_v (va_runSN (As := [.ref w_8693, .ref w_8694]) (rest := []) ⟨hx, hb, hml, hown, hts⟩ (s_X11_copy_162_161 l D t σ I_8692 J_8 ri_8673 rj_10 rq H.size tg hSH hG.1 w_8693 w_8694 hL_w_8693 hK_w_8693 hN_w_8693 hT_w_8693 hL_w_8694 hK_w_8694 hN_w_8694 hT_w_8694) ⟨va_cnB (host := "RingsUnder") 2 hts (tw_W tw_1102) rfl rfl rfl (nl_23 hN) (hts _ (tw_c tw_2)) cd_yX11_copy_2 ⟨Nat.le_of_ble_eq_true rfl, Nat.le_of_ble_eq_true rfl⟩, hts (.static yX11_copy) (tw_c tq_static_yX11_copy), trivial⟩ ⟨pq_blind, pq_pre hK hN hP hD⟩ rfl rfl hl.1 rfl (lv_room (Nat.le_of_ble_eq_true rfl)) dX5_seek_110 ⟨Nat.le_of_ble_eq_true rfl, Nat.le_of_ble_eq_true rfl⟩) hD hS hA (fun σ1 μ1 H locs hw_8696 hP hD hS => ?_)
                    obtain ⟨ri_8697, hu_8698, hg_8699, hp_8701, hp_8702⟩ := hw_8696
                    obtain ⟨hu_8698a, hu_8698b⟩ := Prod.mk.inj hu_8698
                    rw [hu_8698a, hu_8698b] at hP hD
                    have hG := GX.tr hG hg_8699 (by decide)
                    refine lv_aload_n hx hb dX5_seek_113 rfl (lv_at hl 1 rfl) ?_
                    refine lv_iload hx hb dX5_seek_114 (lv_at hl 5 rfl) ?_
                    refine pk_i (va_runV (As := [.int (I 64 w_1)]) (rest := []) ⟨hx, hb, hml, hown, hts⟩ (s_X5_toNextOrder l D t σ I_8692 J_8 ri_8697 rj_10 rq H.size tg hSH hG.1 this (I 64 w_1) hL_this hK_this (rg_w h_2 (by decide))) (cwV 1 hts (tw_V tw_1475 tw_1476 tw_1477 tw_21 tw_1478) rfl rfl rfl cv_yX5_toNextOrder_1 ⟨Nat.le_of_ble_eq_true rfl, Nat.le_of_ble_eq_true rfl⟩) ⟨pq_blind, pq_recv hK hP hL_this hK_this (by decide) rfl, pq_pre hK hN hP hD⟩ rfl rfl hl.1 rfl (lv_room (Nat.le_of_ble_eq_true rfl)) dX5_seek_116 ⟨Nat.le_of_ble_eq_true rfl, Nat.le_of_ble_eq_true rfl⟩) hD hS hA (fun x_8703 σ1 μ1 H locs hw_8704 hP hD hS => ?_)
                    obtain ⟨ri_8705, hu_8706, hg_8707, hr_8708⟩ := hw_8704
                    obtain ⟨hu_8706a, hu_8706b⟩ := Prod.mk.inj hu_8706
                    rw [hu_8706a, hu_8706b] at hP hD
                    have hG := GX.tr hG hg_8707 (by decide)
                    have h_8709 : rg x_8703 0 1 := by rcases hr_8708 with ⟨q, -⟩ | ⟨q, -⟩ <;> rw [q] <;> exact ⟨by decide, by decide⟩
                    have uh_8709 := h_8709.1
                    have vh_8709 := h_8709.2
                    refine lv_istore (lv' := [(6, .int x_8703), (8, .int x_8670), (0, .ref this), (1, .ref a0), (2, .ref a1), (4, .int a3), (5, .int (I 64 w_1)), (7, .int x_8585)]) hx hb dX5_seek_119 hl (by decide) rfl (fun ls hl => ?_)
                    obtain ⟨x_8710, ex_8710⟩ : ∃ y : Int32, y = x_8585 + Int32.ofInt 1 := ⟨_, rfl⟩
                    have h_8711 : rg x_8710 1 120 := rg_of_eq ex_8710 (rg_add h_8662 (rg_k (Int32.ofInt 1) 1 rfl) (by decide))
                    have uh_8711 := h_8711.1
                    have vh_8711 := h_8711.2
                    have tx_8710 : (x_8710).toInt = (x_8585).toInt + 1 := by rw [ex_8710]; exact i_add_rg (a2 := (x_8585).toInt) (b2 := 1) rfl rfl h_8662 (rg_k (Int32.ofInt 1) 1 rfl) (by decide)
                    refine lv_iinc (v := x_8710) (lv' := [(7, .int x_8710), (6, .int x_8703), (8, .int x_8670), (0, .ref this), (1, .ref a0), (2, .ref a1), (4, .int a3), (5, .int (I 64 w_1))]) hx hb dX5_seek_121 hl (k := 7) rfl ex_8710.symm (by decide) rfl (fun ls hl => ?_)
                    refine lv_goto (tgt := 60) hx hb dX5_seek_124 (by decide) ?_
                    exact ih_8649 x_8703 x_8710 I_8692 ri_8705 _ _ _ (rg_w h_8709 (by decide)) (rg_w h_8711 (by decide)) (fo_t (fo_t hrel_8656 (fo_c hg_8675 (by decide))) (fo_o eI_8692 (by decide))) (fr_tt (fr_tt (fr_tt hrel_8657 hp_8677) (fr_c hg_8699 (by decide))) (fr_c hg_8707 (by decide))) (ms_up 1 hm_8646 ex_8710 rfl (by decide) h_8662 (by decide) (by decide)) hG hP hD hS (lv_sub hl [3, 4, 5, 6, 7, 1, 0] rfl)
          exact L_8648 _ (1 : Int32) (0 : Int32) I_7633 ri_6535 _ _ _ (rg_w (rg_k (1 : Int32) 1 rfl) (by decide)) (rg_w (rg_k (0 : Int32) 0 rfl) (by decide)) (fo_t hrel_7629 (fo_o eI_7633 (by decide))) hrel_7630 (Nat.lt_succ_self _) hG hP hD hS (lv_sub hl [2, 3, 4, 5, 6, 1, 0] rfl)
        · have tc_8712 : (x_6534).toInt < (I 64 w_1).toInt := Int32.lt_iff_toInt_lt.mp (nle c_7631)
          have h_8713 : rg x_6534 0 4 := rg_lt1 (nle c_7631) h_7628 h_2 (by decide)
          have uh_8713 := h_8713.1
          have vh_8713 := h_8713.2
          have h_8714 : rg (I 64 w_1) 1 5 := rg_lt2 (nle c_7631) h_7628 h_2 (by decide)
          have uh_8714 := h_8714.1
          have vh_8714 := h_8714.2
          refine lv_aload_n hx hb dX5_seek_32 rfl (lv_at hl 0 rfl) ?_
          obtain ⟨w_8715, hR_w_8715, hL_w_8715, hK_w_8715, hN_w_8715, hT_w_8715⟩ := sh_a hSH 162 (ci := 5) (kd := 13) (len := 5) rfl (by decide) hL_this hK_this
          refine pg_f (v := .ref w_8715) (C := RX5) (T := TX5) (N := 8) hx hb hts (tw_i inlX5) hown hK hP hL_this hK_this (by decide) rfl 2 (by decide) (hts _ (tw_c tw_143)) (pq_hv rfl hR_w_8715) dX5_seek_33 ?_
          refine lv_iload hx hb dX5_seek_36 (lv_at hl 5 rfl) ?_
          refine lv_iload hx hb dX5_seek_38 (lv_at hl 5 rfl) ?_
          refine pt_i hx hb hK hP hD hS hL_w_8715 hK_w_8715 hN_w_8715 (rg_in h_8713 (by decide)) dX5_seek_40 (fun r_8716 H locs er_8716 hP hD hS => ?_)
          have hG := GX.wR hG hSH hT_w_8715 rfl er_8716 (rg_w h_8713 (by decide)) (by decide)
          obtain ⟨x_8717, ex_8717⟩ : ∃ y : Int32, y = x_6534 + Int32.ofInt 1 := ⟨_, rfl⟩
          have h_8718 : rg x_8717 1 5 := rg_of_eq ex_8717 (rg_add h_8713 (rg_k (Int32.ofInt 1) 1 rfl) (by decide))
          have uh_8718 := h_8718.1
          have vh_8718 := h_8718.2
          have tx_8717 : (x_8717).toInt = (x_6534).toInt + 1 := by rw [ex_8717]; exact i_add_rg (a2 := (x_6534).toInt) (b2 := 1) rfl rfl h_8713 (rg_k (Int32.ofInt 1) 1 rfl) (by decide)
          refine lv_iinc (v := x_8717) (lv' := [(6, .int x_8717), (0, .ref this), (1, .ref a0), (2, .ref a1), (4, .int a3), (5, .int (I 64 w_1))]) hx hb dX5_seek_41 hl (k := 5) rfl ex_8717.symm (by decide) rfl (fun ls hl => ?_)
          refine lv_goto (tgt := 25) hx hb dX5_seek_44 (by decide) ?_
          exact ih_7624 x_8717 r_8716 _ _ _ (rg_w h_8718 (by decide)) hrel_7629 (fr_tt hrel_7630 (fr_st er_8716 hT_w_8715 (by decide))) (ms_up 1 hm_7621 ex_8717 rfl (by decide) h_8713 (by decide) (by decide)) hG hP hD hS (lv_sub hl [1, 2, 3, 4, 5, 0] rfl)
    exact L_7623 _ (0 : Int32) ri_9 _ _ _ (rg_w (rg_k (0 : Int32) 0 rfl) (by decide)) (fo_t fo_rf hp_14) (fr_tt fr_rf (fr_c hg_12 (by decide))) (Nat.lt_succ_self _) hG hP hD hS (lv_sub hl [2, 3, 4, 6, 1, 0] rfl)
  exact go _ _ _ hP hD hS hl

set_option maxHeartbeats 4000000 in
set_option maxRecDepth 100000 in
theorem s_X11_order_w (l : Launch) (D : va_G) (t : pq_T) (σ : pq_S) (I : Nat → Nat → Int32) (J : Nat → Nat → Int64) (ri : Nat → Nat → Int32) (rj : Nat → Nat → Int64) (rq : Nat → Nat → Option Nat) (sz : Nat) (tg : Nat → Nat) (hSH : SH σ tg) (hG0 : GS tg σ I ri rq) (this : Nat) (a0 : Int32) (a1 : Int32) (a2 : Int32) (hL_this : this ∈ σ.1) (hK_this : σ.2.1 this = 11) (this_trial : Nat) (hR_this_trial : σ.2.2.1 354 this = some this_trial) (hL_this_trial : this_trial ∈ σ.1) (hK_this_trial : σ.2.1 this_trial = 10) : MetI l yX11_order (wa yX11_order cX11_order 5 (some .int)) ({ frames := 7, cells := 0, slots := 0, locals := 197 }) [.ref this, .int a0, .int a1, .int a2] D t σ (I, J, ri, rj, rq) sz 0 0 (fun (r : Int32) (u : pq_S × pq_M) => ∃ I' : Nat → Nat → Int32, ∃ J' : Nat → Nat → Int64, ∃ ri' : Nat → Nat → Int32, ∃ rj' : Nat → Nat → Int64, ∃ rq' : Nat → Nat → Option Nat, u = (σ, I', J', ri', rj', rq') ∧ GX [320, 224, 1225, 1226, 1227, 1228, 1229, 1230, 1231, 1232, 1233, 234, 235, 236, 64, 65, 1069, 1070, 1073, 1074, 1075, 1288, 1079, 0, 1005, 10, 96, 98, 32, 1033, 1034] tg σ I ri rj I' ri' rj' rq' ∧ (FO σ this_trial I I') ∧ (FR0 σ tg this_trial ri ri')) := by
  refine Met.ofW (cc := cX11_order) (maxL := 5) (ret := (some .int)) (by decide) rfl ?_
  intro p e s m args below meth c s₁ B hml hv
  obtain ⟨rfl, hsz, hP, hK, hD0, hN⟩ := hv
  have hx := B.exec
  have hb := B.bytes
  have hr := B.returns
  have hts := atoms_spec (ws := (wa yX11_order cX11_order 5 (some .int))) B.pre
  have hown : s.vm.findClass RX11 = some m.cls := findClass_of_methodNamed B.named
  have hlocks := B.notSynchronized
  subst hsz
  have hD : va_D (pq_B t σ (I, J, ri, rj, rq) s.heap.size) (pq_P t σ (I, J, ri, rj, rq)) := hD0.self
  generalize hAe : pq_B t σ (I, J, ri, rj, rq) s.heap.size = A at hD ⊢
  have hA : ∀ q : Nat, s.heap.size ≤ q → A q := fun q h => by rw [← hAe]; exact Or.inr h
  have hS : va_S A s.heap s.heap [] := va_S.rf
  have hG : GX [320, 224, 1225, 1226, 1227, 1228, 1229, 1230, 1231, 1232, 1233, 234, 235, 236, 64, 65, 1069, 1070, 1073, 1074, 1075, 1288, 1079, 0, 1005, 10, 96, 98, 32, 1033, 1034] tg σ I ri rj I ri rj rq := ⟨hG0, fun _ _ _ => rfl, fun _ _ _ _ _ => rfl, fun _ _ _ _ _ => rfl⟩
  have hl := lv_entry ([.ref this, .int a0, .int a1, .int a2]) (n := 5) (Nat.le_of_ble_eq_true rfl)
  rw [lg_entry_eq]
  generalize (lg_sl ([.ref this, .int a0, .int a1, .int a2]) ++ List.replicate (5 - (lg_sl ([.ref this, .int a0, .int a1, .int a2])).length) Slot.unset).toArray = ls at hl ⊢
  have hl : lv_has ls 5 [(0, .ref this), (1, .int a0), (2, .int a1), (3, .int a2)] := hl
  refine q_gen (fun Q hQ => ?_)
  have go : ∀ (H : Heap) (locs : List Loc) (ls : Array Slot), va_P D vwCl (pq_P t σ (I, J, ri, rj, rq)) H → va_D A (pq_P t σ (I, J, ri, rj, rq)) → va_S A s.heap H locs → lv_has ls 5 [(0, .ref this), (1, .int a0), (2, .int a1), (3, .int a2)] → W p l e ({ frames := 7, cells := 0, slots := 0, locals := 197 } : Room) s m (List.toArray ([.ref this, .int a0, .int a1, .int a2] : List Value)) below meth c H locs 0 0 Q (F0 m 0 ls []) := by
    intro H locs ls hP hD hS hl
    obtain ⟨w_1, hR_w_1, hL_w_1, hK_w_1⟩ := sh_o hSH 352 (ci := 11) (kd := 10) rfl hL_this hK_this
    refine lv_aload_n hx hb dX11_order_0 rfl (lv_at hl 0 rfl) ?_
    refine lv_iload_n hx hb dX11_order_1 rfl (lv_at hl 1 rfl) ?_
    refine lv_iload_n hx hb dX11_order_2 rfl (lv_at hl 2 rfl) ?_
    refine lv_bipush (v := 12) hx hb dX11_order_3 (by decide) ?_
    refine pk_i (va_runV (As := [.int a0, .int a1, .int 12]) (rest := []) ⟨hx, hb, hml, hown, hts⟩ (s_X11_canGoBy_w l D t σ I J ri rj rq H.size tg hSH hG.1 this a0 a1 (12 : Int32) hL_this hK_this (rg_w (rg_k (12 : Int32) 12 rfl) (by decide)) w_1 hR_w_1 hL_w_1 hK_w_1) (cwV 3 hts (tw_V tw_1035 tw_1036 tw_1037 tw_2 tw_1038) rfl rfl rfl cv_yX11_canGoBy_3 ⟨Nat.le_of_ble_eq_true rfl, Nat.le_of_ble_eq_true rfl⟩) ⟨pq_blind, pq_recv hK hP hL_this hK_this (by decide) rfl, pq_pre hK hN hP hD⟩ rfl rfl hl.1 rfl (lv_room (Nat.le_of_ble_eq_true rfl)) dX11_order_5 ⟨Nat.le_of_ble_eq_true rfl, Nat.le_of_ble_eq_true rfl⟩) hD hS hA (fun x_2 σ1 μ1 H locs hw_3 hP hD hS => ?_)
    obtain ⟨hu_4, hr_6⟩ := hw_3
    obtain ⟨hu_4a, hu_4b⟩ := Prod.mk.inj hu_4
    rw [hu_4a, hu_4b] at hP hD
    have h_7 : rg x_2 0 1 := by rcases hr_6 with ⟨q, -⟩ | ⟨q, -⟩ <;> rw [q] <;> exact ⟨by decide, by decide⟩
    have uh_7 := h_7.1
    have vh_7 := h_7.2
    refine lv_if_eq (tgt := 35) hx hb dX11_order_8 (by decide) (fun c_8 => ?_) (fun c_8 => ?_)
    · have f_9 := (hr_6.resolve_left (fun q => absurd (q.1.symm.trans c_8) (by decide))).2
      have zk_10 : (12 : Int32).toInt = 12 := rfl
      have tc_11 : (x_2).toInt = 0 := congrArg Int32.toInt c_8
      have h_12 : rg x_2 0 0 := rg_and h_7 (rg_of_eq c_8 (rg_k (0 : Int32) 0 rfl)) (by decide)
      have uh_12 := h_12.1
      have vh_12 := h_12.2
      refine lv_iconst (v := 0) hx hb dX11_order_35 (by decide) ?_
      refine lv_istore (lv' := [(4, .int 0), (0, .ref this), (1, .int a0), (2, .int a1), (3, .int a2)]) hx hb dX11_order_36 hl (by decide) rfl (fun ls hl => ?_)
      refine lv_iload hx hb dX11_order_38 (lv_at hl 0 rfl) ?_
      refine lv_if_ne (tgt := 45) hx hb dX11_order_40 (by decide) (fun c_13 => absurd c_13 (by decide)) (fun c_13 => ?_)
      refine lv_iconst (v := (-1)) hx hb dX11_order_43 (by decide) ?_
      subst hQ
      exact W.iret (v := (-1)) hx hb hr (fun t1 ht hW => ⟨⟨(-1), (σ, I, J, ri, rj, rq), rfl, ⟨I, J, ri, rj, rq, rfl, hG, fo_rf, fr_rf⟩, by rw [ht]; exact hP, va_K.moved hW.alike hK, hD⟩, hS.F ht⟩) hS.2.2 dX11_order_44
    · obtain ⟨f_14, f_15, f_16⟩ := (hr_6.resolve_right (fun q => c_8 q.1)).2
      have zk_17 : (12 : Int32).toInt = 12 := rfl
      have tc_18 : (x_2).toInt ≠ 0 := fun q => c_8 (Int32.toInt_inj.mp q)
      have h_19 : rg x_2 1 1 := rg_ne c_8 h_7 0 rfl (by decide)
      have uh_19 := h_19.1
      have vh_19 := h_19.2
      refine lv_iload_n hx hb dX11_order_11 rfl (lv_at hl 3 rfl) ?_
      refine lv_iconst (v := (-1)) hx hb dX11_order_12 (by decide) ?_
      refine lv_aload_n hx hb dX11_order_13 rfl (lv_at hl 0 rfl) ?_
      refine pg_f (v := .ref w_1) (C := RX11) (T := TX11) (N := 5) hx hb hts (tw_i inlX11) hown hK hP hL_this hK_this (by decide) rfl 0 (by decide) (hts _ (tw_c tw_16)) (pq_hv rfl hR_w_1) dX11_order_14 ?_
      obtain ⟨w_20, hR_w_20, hL_w_20, hK_w_20⟩ := sh_o hSH 327 (ci := 10) (kd := 2) rfl hL_w_1 hK_w_1
      refine pg_f (v := .ref w_20) (C := RX10) (T := TX10) (N := 13) hx hb hts (tw_i inlX10) hown hK hP hL_w_1 hK_w_1 (by decide) rfl 7 (by decide) (hts _ (tw_c tw_199)) (pq_hv rfl hR_w_20) dX11_order_17 ?_
      refine pg_f (v := .int (I 64 w_20)) (C := RX2) (T := TX2) (N := 20) hx hb hts (tw_i inlX2) hown hK hP hL_w_20 hK_w_20 (by decide) rfl 0 (by decide) (hts _ (tw_c tw_200)) rfl dX11_order_20 ?_
      have h_21 : rg (I 64 w_20) 0 5 := GX.rI hG 64 rfl
      have uh_21 := h_21.1
      have vh_21 := h_21.2
      refine lv_iconst (v := 1) hx hb dX11_order_23 (by decide) ?_
      refine lv_isub hx hb dX11_order_24 ?_
      refine lv_topi (fun x_22 ex_22 => ?_)
      have h_23 : rg x_22 (-1) 4 := rg_of_eq ex_22 (rg_sub h_21 (rg_k (1 : Int32) 1 rfl) (by decide))
      have uh_23 := h_23.1
      have vh_23 := h_23.2
      have tx_22 : (x_22).toInt = (I 64 w_20).toInt - 1 := by rw [ex_22]; exact i_sub_rg (a2 := (I 64 w_20).toInt) (b2 := 1) rfl rfl h_21 (rg_k (1 : Int32) 1 rfl) (by decide)
      refine pk_i (va_runS (As := [.int a2, .int (-1), .int x_22]) (rest := []) ⟨hx, hb, hml, hown, hts⟩ (s_X11_between_v l D t σ I J ri rj rq H.size tg hSH hG.1 a2 (-1 : Int32) x_22) (va_cwS 3 hts (tw_S tw_215 tw_216 tw_2 tw_217) rfl rfl rfl cd_yX11_between_3 ⟨Nat.le_of_ble_eq_true rfl, Nat.le_of_ble_eq_true rfl⟩) ⟨pq_blind, pq_pre hK hN hP hD⟩ rfl rfl hl.1 rfl (lv_room (Nat.le_of_ble_eq_true rfl)) dX11_order_25 ⟨Nat.le_of_ble_eq_true rfl, Nat.le_of_ble_eq_true rfl⟩) hD hS hA (fun x_24 σ1 μ1 H locs hw_25 hP hD hS => ?_)
      obtain ⟨hu_26, hr_28⟩ := hw_25
      obtain ⟨hu_26a, hu_26b⟩ := Prod.mk.inj hu_26
      rw [hu_26a, hu_26b] at hP hD
      have h_29 : rg x_24 0 1 := by rcases hr_28 with ⟨q, -⟩ | ⟨q, -⟩ <;> rw [q] <;> exact ⟨by decide, by decide⟩
      have uh_29 := h_29.1
      have vh_29 := h_29.2
      refine lv_if_eq (tgt := 35) hx hb dX11_order_28 (by decide) (fun c_30 => ?_) (fun c_30 => ?_)
      · have f_31 := (hr_28.resolve_left (fun q => absurd (q.1.symm.trans c_30) (by decide))).2
        have zk_32 : (-1 : Int32).toInt = -1 := rfl
        have tc_33 : (x_24).toInt = 0 := congrArg Int32.toInt c_30
        have h_34 : rg x_24 0 0 := rg_and h_29 (rg_of_eq c_30 (rg_k (0 : Int32) 0 rfl)) (by decide)
        have uh_34 := h_34.1
        have vh_34 := h_34.2
        refine lv_iconst (v := 0) hx hb dX11_order_35 (by decide) ?_
        refine lv_istore (lv' := [(4, .int 0), (0, .ref this), (1, .int a0), (2, .int a1), (3, .int a2)]) hx hb dX11_order_36 hl (by decide) rfl (fun ls hl => ?_)
        refine lv_iload hx hb dX11_order_38 (lv_at hl 0 rfl) ?_
        refine lv_if_ne (tgt := 45) hx hb dX11_order_40 (by decide) (fun c_35 => absurd c_35 (by decide)) (fun c_35 => ?_)
        refine lv_iconst (v := (-1)) hx hb dX11_order_43 (by decide) ?_
        subst hQ
        exact W.iret (v := (-1)) hx hb hr (fun t1 ht hW => ⟨⟨(-1), (σ, I, J, ri, rj, rq), rfl, ⟨I, J, ri, rj, rq, rfl, hG, fo_rf, fr_rf⟩, by rw [ht]; exact hP, va_K.moved hW.alike hK, hD⟩, hS.F ht⟩) hS.2.2 dX11_order_44
      · obtain ⟨f_36, f_37⟩ := (hr_28.resolve_right (fun q => c_30 q.1)).2
        have tc_38 : (-1) ≤ (a2).toInt := Int32.le_iff_toInt_le.mp f_36
        have h_39 : rg a2 (-1) 2147483647 := rg_le2 f_36 (rg_k (-1 : Int32) (-1) rfl) (rg_full _) (by decide)
        have uh_39 := h_39.1
        have vh_39 := h_39.2
        have tc_40 : (a2).toInt ≤ (x_22).toInt := Int32.le_iff_toInt_le.mp f_37
        have h_41 : rg a2 (-1) 4 := rg_le1 f_37 h_39 h_23 (by decide)
        have uh_41 := h_41.1
        have vh_41 := h_41.2
        have tc_42 : (x_24).toInt ≠ 0 := fun q => c_30 (Int32.toInt_inj.mp q)
        have h_43 : rg x_24 1 1 := rg_ne c_30 h_29 0 rfl (by decide)
        have uh_43 := h_43.1
        have vh_43 := h_43.2
        refine lv_iconst (v := 1) hx hb dX11_order_31 (by decide) ?_
        refine lv_goto (tgt := 36) hx hb dX11_order_32 (by decide) ?_
        refine lv_istore (lv' := [(4, .int 1), (0, .ref this), (1, .int a0), (2, .int a1), (3, .int a2)]) hx hb dX11_order_36 hl (by decide) rfl (fun ls hl => ?_)
        refine lv_iload hx hb dX11_order_38 (lv_at hl 0 rfl) ?_
        refine lv_if_ne (tgt := 45) hx hb dX11_order_40 (by decide) (fun c_44 => ?_) (fun c_44 => absurd c_44 (by decide))
        refine lv_aload_n hx hb dX11_order_45 rfl (lv_at hl 1 rfl) ?_
        refine pg_f (v := .ref this_trial) (C := RX11) (T := TX11) (N := 5) hx hb hts (tw_i inlX11) hown hK hP hL_this hK_this (by decide) rfl 2 (by decide) (hts _ (tw_c tw_18)) (pq_hv rfl hR_this_trial) dX11_order_46 ?_
        refine lv_aload_n hx hb dX11_order_49 rfl (lv_at hl 1 rfl) ?_
        refine pg_f (v := .ref w_1) (C := RX11) (T := TX11) (N := 5) hx hb hts (tw_i inlX11) hown hK hP hL_this hK_this (by decide) rfl 0 (by decide) (hts _ (tw_c tw_16)) (pq_hv rfl hR_w_1) dX11_order_50 ?_
        refine pk_v (va_runV (As := [.ref w_1]) (rest := []) ⟨hx, hb, hml, hown, hts⟩ (s_X10_copyFrom_w l D t σ I J ri rj rq H.size tg hSH hG.1 this_trial w_1 hL_this_trial hK_this_trial hL_w_1 hK_w_1) (cwV 1 hts (tw_V tw_1362 tw_1363 tw_1364 tw_15 tw_1365) rfl rfl rfl cv_yX10_copyFrom_1 ⟨Nat.le_of_ble_eq_true rfl, Nat.le_of_ble_eq_true rfl⟩) ⟨pq_blind, pq_recv hK hP hL_this_trial hK_this_trial (by decide) rfl, pq_pre hK hN hP hD⟩ rfl rfl hl.1 rfl (lv_room (Nat.le_of_ble_eq_true rfl)) dX11_order_53 ⟨Nat.le_of_ble_eq_true rfl, Nat.le_of_ble_eq_true rfl⟩) hD hS hA (fun σ1 μ1 H locs hw_46 hP hD hS => ?_)
        obtain ⟨I_47, J_48, ri_49, rj_50, rq_51, hu_52, hg_53, hp_55, hp_56, hp_57⟩ := hw_46
        obtain ⟨hu_52a, hu_52b⟩ := Prod.mk.inj hu_52
        rw [hu_52a, hu_52b] at hP hD
        have tt_58 : (I_47 320 this_trial).toInt = (I 320 w_1).toInt := congrArg Int32.toInt hp_55
        have hG := GX.tr hG hg_53 (by decide)
        refine lv_aload_n hx hb dX11_order_56 rfl (lv_at hl 1 rfl) ?_
        obtain ⟨w_59, hR_w_59, hL_w_59, hK_w_59⟩ := sh_o hSH 355 (ci := 11) (kd := 5) rfl hL_this hK_this
        refine pg_f (v := .ref w_59) (C := RX11) (T := TX11) (N := 5) hx hb hts (tw_i inlX11) hown hK hP hL_this hK_this (by decide) rfl 3 (by decide) (hts _ (tw_c tw_22)) (pq_hv rfl hR_w_59) dX11_order_57 ?_
        refine lv_aload_n hx hb dX11_order_60 rfl (lv_at hl 1 rfl) ?_
        refine pg_f (v := .ref w_1) (C := RX11) (T := TX11) (N := 5) hx hb hts (tw_i inlX11) hown hK hP hL_this hK_this (by decide) rfl 0 (by decide) (hts _ (tw_c tw_16)) (pq_hv rfl hR_w_1) dX11_order_61 ?_
        refine lv_aload_n hx hb dX11_order_64 rfl (lv_at hl 1 rfl) ?_
        refine pg_f (v := .ref this_trial) (C := RX11) (T := TX11) (N := 5) hx hb hts (tw_i inlX11) hown hK hP hL_this hK_this (by decide) rfl 2 (by decide) (hts _ (tw_c tw_18)) (pq_hv rfl hR_this_trial) dX11_order_65 ?_
        refine lv_iload_n hx hb dX11_order_68 rfl (lv_at hl 2 rfl) ?_
        refine lv_iload_n hx hb dX11_order_69 rfl (lv_at hl 3 rfl) ?_
        have h_60 : rg a1 1 12 := ⟨by omega, by omega⟩
        have uh_60 := h_60.1
        have vh_60 := h_60.2
        refine pk_v (va_runV (As := [.ref w_1, .ref this_trial, .int a0, .int a1]) (rest := []) ⟨hx, hb, hml, hown, hts⟩ (s_X5_seek_w l D t σ I_47 J_48 ri_49 rj_50 rq_51 H.size tg hSH hG.1 w_59 w_1 this_trial a0 a1 hL_w_59 hK_w_59 hL_w_1 hK_w_1 hL_this_trial hK_this_trial (rg_w h_60 (by decide)) (by omega)) (cwV 4 hts (tw_V tw_1434 tw_1435 tw_1436 tw_21 tw_1437) rfl rfl rfl cv_yX5_seek_4 ⟨Nat.le_of_ble_eq_true rfl, Nat.le_of_ble_eq_true rfl⟩) ⟨pq_blind, pq_recv hK hP hL_w_59 hK_w_59 (by decide) rfl, pq_pre hK hN hP hD⟩ rfl rfl hl.1 rfl (lv_room (Nat.le_of_ble_eq_true rfl)) dX11_order_70 ⟨Nat.le_of_ble_eq_true rfl, Nat.le_of_ble_eq_true rfl⟩) hD hS hA (fun σ1 μ1 H locs hw_62 hP hD hS => ?_)
        obtain ⟨I_63, J_64, ri_65, rj_66, hu_67, hg_68, hp_70, hp_71⟩ := hw_62
        obtain ⟨hu_67a, hu_67b⟩ := Prod.mk.inj hu_67
        rw [hu_67a, hu_67b] at hP hD
        have hG := GX.tr hG hg_68 (by decide)
        refine lv_iload_n hx hb dX11_order_73 rfl (lv_at hl 4 rfl) ?_
        refine lv_iconst (v := (-1)) hx hb dX11_order_74 (by decide) ?_
        refine lv_icmp_ne (tgt := 88) hx hb dX11_order_75 (by decide) (fun c_72 => ?_) (fun c_72 => ?_)
        · have tc_73 : (a2).toInt ≠ (-1) := fun q => c_72 (Int32.toInt_inj.mp q)
          have h_74 : rg a2 0 4 := rg_ne c_72 h_41 (-1) rfl (by decide)
          have uh_74 := h_74.1
          have vh_74 := h_74.2
          refine lv_aload_n hx hb dX11_order_88 rfl (lv_at hl 1 rfl) ?_
          refine pg_f (v := .ref w_59) (C := RX11) (T := TX11) (N := 5) hx hb hts (tw_i inlX11) hown hK hP hL_this hK_this (by decide) rfl 3 (by decide) (hts _ (tw_c tw_22)) (pq_hv rfl hR_w_59) dX11_order_89 ?_
          obtain ⟨w_75, hR_w_75, hL_w_75, hK_w_75, hN_w_75, hT_w_75⟩ := sh_a hSH 161 (ci := 5) (kd := 13) (len := 5) rfl (by decide) hL_w_59 hK_w_59
          refine pg_f (v := .ref w_75) (C := RX5) (T := TX5) (N := 8) hx hb hts (tw_i inlX5) hown hK hP hL_w_59 hK_w_59 (by decide) rfl 1 (by decide) (hts _ (tw_c tw_1433)) (pq_hv rfl hR_w_75) dX11_order_92 ?_
          refine lv_iload_n hx hb dX11_order_95 rfl (lv_at hl 4 rfl) ?_
          refine pl_i hx hb hK hP hL_w_75 hK_w_75 hN_w_75 (rg_in h_74 (by decide)) dX11_order_96 ?_
          refine lv_topi (fun x_76 ex_76 => ?_)
          subst hQ
          exact W.iret (v := x_76) hx hb hr (fun t1 ht hW => ⟨⟨x_76, (σ, I_63, J_64, ri_65, rj_66, rq_51), rfl, ⟨I_63, J_64, ri_65, rj_66, rq_51, rfl, hG, (fo_t (fo_t fo_rf (fo_u hp_56)) hp_70), (fr_tt (fr_tt fr_rf (fr_u hp_57)) hp_71)⟩, by rw [ht]; exact hP, va_K.moved hW.alike hK, hD⟩, hS.F ht⟩) hS.2.2 dX11_order_97
        · have tc_77 : (a2).toInt = (-1) := congrArg Int32.toInt c_72
          have h_78 : rg a2 (-1) (-1) := rg_and h_41 (rg_of_eq c_72 (rg_k (-1 : Int32) (-1) rfl)) (by decide)
          have uh_78 := h_78.1
          have vh_78 := h_78.2
          refine lv_aload_n hx hb dX11_order_78 rfl (lv_at hl 1 rfl) ?_
          refine pg_f (v := .ref w_59) (C := RX11) (T := TX11) (N := 5) hx hb hts (tw_i inlX11) hown hK hP hL_this hK_this (by decide) rfl 3 (by decide) (hts _ (tw_c tw_22)) (pq_hv rfl hR_w_59) dX11_order_79 ?_
          refine pg_f (v := .int (I_63 160 w_59)) (C := RX5) (T := TX5) (N := 8) hx hb hts (tw_i inlX5) hown hK hP hL_w_59 hK_w_59 (by decide) rfl 0 (by decide) (hts _ (tw_c tw_1432)) rfl dX11_order_82 ?_
          refine lv_goto (tgt := 97) hx hb dX11_order_85 (by decide) ?_
          subst hQ
          exact W.iret (v := (I_63 160 w_59)) hx hb hr (fun t1 ht hW => ⟨⟨(I_63 160 w_59), (σ, I_63, J_64, ri_65, rj_66, rq_51), rfl, ⟨I_63, J_64, ri_65, rj_66, rq_51, rfl, hG, (fo_t (fo_t fo_rf (fo_u hp_56)) hp_70), (fr_tt (fr_tt fr_rf (fr_u hp_57)) hp_71)⟩, by rw [ht]; exact hP, va_K.moved hW.alike hK, hD⟩, hS.F ht⟩) hS.2.2 dX11_order_97
  exact go _ _ _ hP hD hS hl

set_option maxHeartbeats 4000000 in
set_option maxRecDepth 100000 in
theorem s_X11_isMonth_w (l : Launch) (D : va_G) (t : pq_T) (σ : pq_S) (I : Nat → Nat → Int32) (J : Nat → Nat → Int64) (ri : Nat → Nat → Int32) (rj : Nat → Nat → Int64) (rq : Nat → Nat → Option Nat) (sz : Nat) (tg : Nat → Nat) (hSH : SH σ tg) (hG0 : GS tg σ I ri rq) (a0 : Int32) : MetI l yX11_isMonth (wa yX11_isMonth cX11_isMonth 1 (some .boolean)) ({ frames := 1, cells := 0, slots := 0, locals := 22 }) [.int a0] D t σ (I, J, ri, rj, rq) sz 0 0 (fun (r : Int32) (u : pq_S × pq_M) => u = (σ, I, J, ri, rj, rq) ∧ ((r = 1 ∧ rg a0 0 599 ∧ (0 ≤ a0.toInt ∧ a0.toInt ≤ 599)) ∨ (r = 0 ∧ (¬ (0 ≤ a0.toInt ∧ a0.toInt ≤ 599))))) := by
  refine Met.ofW (cc := cX11_isMonth) (maxL := 1) (ret := (some .boolean)) (by decide) rfl ?_
  intro p e s m args below meth c s₁ B hml hv
  obtain ⟨rfl, hsz, hP, hK, hD0, hN⟩ := hv
  have hx := B.exec
  have hb := B.bytes
  have hr := B.returns
  have hts := atoms_spec (ws := (wa yX11_isMonth cX11_isMonth 1 (some .boolean))) B.pre
  have hown : s.vm.findClass RX11 = some m.cls := findClass_of_methodNamed B.named
  have hlocks := B.notSynchronized
  subst hsz
  have hD : va_D (pq_B t σ (I, J, ri, rj, rq) s.heap.size) (pq_P t σ (I, J, ri, rj, rq)) := hD0.self
  generalize hAe : pq_B t σ (I, J, ri, rj, rq) s.heap.size = A at hD ⊢
  have hA : ∀ q : Nat, s.heap.size ≤ q → A q := fun q h => by rw [← hAe]; exact Or.inr h
  have hS : va_S A s.heap s.heap [] := va_S.rf
  have hG : GX [] tg σ I ri rj I ri rj rq := ⟨hG0, fun _ _ _ => rfl, fun _ _ _ _ _ => rfl, fun _ _ _ _ _ => rfl⟩
  have hl := lv_entry ([.int a0]) (n := 1) (Nat.le_of_ble_eq_true rfl)
  rw [lg_entry_eq]
  generalize (lg_sl ([.int a0]) ++ List.replicate (1 - (lg_sl ([.int a0])).length) Slot.unset).toArray = ls at hl ⊢
  have hl : lv_has ls 1 [(0, .int a0)] := hl
  refine q_gen (fun Q hQ => ?_)
  have go : ∀ (H : Heap) (locs : List Loc) (ls : Array Slot), va_P D vwCl (pq_P t σ (I, J, ri, rj, rq)) H → va_D A (pq_P t σ (I, J, ri, rj, rq)) → va_S A s.heap H locs → lv_has ls 1 [(0, .int a0)] → W p l e ({ frames := 1, cells := 0, slots := 0, locals := 22 } : Room) s m (List.toArray ([.int a0] : List Value)) below meth c H locs 0 0 Q (F0 m 0 ls []) := by
    intro H locs ls hP hD hS hl
    refine lv_iload_n hx hb dX11_isMonth_0 rfl (lv_at hl 0 rfl) ?_
    refine lv_iconst (v := 0) hx hb dX11_isMonth_1 (by decide) ?_
    refine lv_sipush (v := 599) hx hb dX11_isMonth_2 (by decide) ?_
    refine pk_i (va_runS (As := [.int a0, .int 0, .int 599]) (rest := []) ⟨hx, hb, hml, hown, hts⟩ (s_X11_between_v l D t σ I J ri rj rq H.size tg hSH hG.1 a0 (0 : Int32) (599 : Int32)) (va_cwS 3 hts (tw_S tw_215 tw_216 tw_2 tw_217) rfl rfl rfl cd_yX11_between_3 ⟨Nat.le_of_ble_eq_true rfl, Nat.le_of_ble_eq_true rfl⟩) ⟨pq_blind, pq_pre hK hN hP hD⟩ rfl rfl hl.1 rfl (lv_room (Nat.le_of_ble_eq_true rfl)) dX11_isMonth_5 ⟨Nat.le_of_ble_eq_true rfl, Nat.le_of_ble_eq_true rfl⟩) hD hS hA (fun x_1 σ1 μ1 H locs hw_2 hP hD hS => ?_)
    obtain ⟨hu_3, hr_5⟩ := hw_2
    obtain ⟨hu_3a, hu_3b⟩ := Prod.mk.inj hu_3
    rw [hu_3a, hu_3b] at hP hD
    have h_6 : rg x_1 0 1 := by rcases hr_5 with ⟨q, -⟩ | ⟨q, -⟩ <;> rw [q] <;> exact ⟨by decide, by decide⟩
    have uh_6 := h_6.1
    have vh_6 := h_6.2
    rcases hr_5 with ⟨e_10, f_7, f_8⟩ | ⟨e_10, f_9⟩
    · refine lv_tov 1 e_10 ?_
      have tc_11 : 0 ≤ (a0).toInt := Int32.le_iff_toInt_le.mp f_7
      have h_12 : rg a0 0 2147483647 := rg_le2 f_7 (rg_k (0 : Int32) 0 rfl) (rg_full _) (by decide)
      have uh_12 := h_12.1
      have vh_12 := h_12.2
      have tc_13 : (a0).toInt ≤ 599 := Int32.le_iff_toInt_le.mp f_8
      have h_14 : rg a0 0 599 := rg_le1 f_8 h_12 (rg_k (599 : Int32) 599 rfl) (by decide)
      have uh_14 := h_14.1
      have vh_14 := h_14.2
      subst hQ
      exact W.zret (v := 1) hx hb hr (by decide) (fun t1 ht hW => ⟨⟨1, (σ, I, J, ri, rj, rq), rfl, ⟨rfl, (Or.inl ⟨rfl, (rg_w h_14 (by decide)), (by omega)⟩)⟩, by rw [ht]; exact hP, va_K.moved hW.alike hK, hD⟩, hS.F ht⟩) hS.2.2 dX11_isMonth_8
    · refine lv_tov 0 e_10 ?_
      have zk_15 : (0 : Int32).toInt = 0 := rfl
      have zk_16 : (599 : Int32).toInt = 599 := rfl
      subst hQ
      exact W.zret (v := 0) hx hb hr (by decide) (fun t1 ht hW => ⟨⟨0, (σ, I, J, ri, rj, rq), rfl, ⟨rfl, (Or.inr ⟨rfl, (by omega)⟩)⟩, by rw [ht]; exact hP, va_K.moved hW.alike hK, hD⟩, hS.F ht⟩) hS.2.2 dX11_isMonth_8
  exact go _ _ _ hP hD hS hl

set_option maxHeartbeats 4000000 in
set_option maxRecDepth 100000 in
theorem s_X11_isRing_w (l : Launch) (D : va_G) (t : pq_T) (σ : pq_S) (I : Nat → Nat → Int32) (J : Nat → Nat → Int64) (ri : Nat → Nat → Int32) (rj : Nat → Nat → Int64) (rq : Nat → Nat → Option Nat) (sz : Nat) (tg : Nat → Nat) (hSH : SH σ tg) (hG0 : GS tg σ I ri rq) (this : Nat) (a0 : Int32) (hL_this : this ∈ σ.1) (hK_this : σ.2.1 this = 11) (this_now : Nat) (hR_this_now : σ.2.2.1 352 this = some this_now) (hL_this_now : this_now ∈ σ.1) (hK_this_now : σ.2.1 this_now = 10) (this_now_land : Nat) (hR_this_now_land : σ.2.2.1 327 this_now = some this_now_land) (hL_this_now_land : this_now_land ∈ σ.1) (hK_this_now_land : σ.2.1 this_now_land = 2) : MetI l yX11_isRing (wa yX11_isRing cX11_isRing 2 (some .boolean)) ({ frames := 1, cells := 0, slots := 0, locals := 22 }) [.ref this, .int a0] D t σ (I, J, ri, rj, rq) sz 0 0 (fun (r : Int32) (u : pq_S × pq_M) => u = (σ, I, J, ri, rj, rq) ∧ ((r = 1 ∧ rg a0 0 4 ∧ (0 ≤ a0.toInt ∧ a0.toInt < (I 64 this_now_land).toInt)) ∨ (r = 0 ∧ (¬ (0 ≤ a0.toInt ∧ a0.toInt < (I 64 this_now_land).toInt))))) := by
  refine Met.ofW (cc := cX11_isRing) (maxL := 2) (ret := (some .boolean)) (by decide) rfl ?_
  intro p e s m args below meth c s₁ B hml hv
  obtain ⟨rfl, hsz, hP, hK, hD0, hN⟩ := hv
  have hx := B.exec
  have hb := B.bytes
  have hr := B.returns
  have hts := atoms_spec (ws := (wa yX11_isRing cX11_isRing 2 (some .boolean))) B.pre
  have hown : s.vm.findClass RX11 = some m.cls := findClass_of_methodNamed B.named
  have hlocks := B.notSynchronized
  subst hsz
  have hD : va_D (pq_B t σ (I, J, ri, rj, rq) s.heap.size) (pq_P t σ (I, J, ri, rj, rq)) := hD0.self
  generalize hAe : pq_B t σ (I, J, ri, rj, rq) s.heap.size = A at hD ⊢
  have hA : ∀ q : Nat, s.heap.size ≤ q → A q := fun q h => by rw [← hAe]; exact Or.inr h
  have hS : va_S A s.heap s.heap [] := va_S.rf
  have hG : GX [] tg σ I ri rj I ri rj rq := ⟨hG0, fun _ _ _ => rfl, fun _ _ _ _ _ => rfl, fun _ _ _ _ _ => rfl⟩
  have hl := lv_entry ([.ref this, .int a0]) (n := 2) (Nat.le_of_ble_eq_true rfl)
  rw [lg_entry_eq]
  generalize (lg_sl ([.ref this, .int a0]) ++ List.replicate (2 - (lg_sl ([.ref this, .int a0])).length) Slot.unset).toArray = ls at hl ⊢
  have hl : lv_has ls 2 [(0, .ref this), (1, .int a0)] := hl
  refine q_gen (fun Q hQ => ?_)
  have go : ∀ (H : Heap) (locs : List Loc) (ls : Array Slot), va_P D vwCl (pq_P t σ (I, J, ri, rj, rq)) H → va_D A (pq_P t σ (I, J, ri, rj, rq)) → va_S A s.heap H locs → lv_has ls 2 [(0, .ref this), (1, .int a0)] → W p l e ({ frames := 1, cells := 0, slots := 0, locals := 22 } : Room) s m (List.toArray ([.ref this, .int a0] : List Value)) below meth c H locs 0 0 Q (F0 m 0 ls []) := by
    intro H locs ls hP hD hS hl
    refine lv_iload_n hx hb dX11_isRing_0 rfl (lv_at hl 1 rfl) ?_
    refine lv_iconst (v := 0) hx hb dX11_isRing_1 (by decide) ?_
    refine lv_aload_n hx hb dX11_isRing_2 rfl (lv_at hl 0 rfl) ?_
    refine pg_f (v := .ref this_now) (C := RX11) (T := TX11) (N := 5) hx hb hts (tw_i inlX11) hown hK hP hL_this hK_this (by decide) rfl 0 (by decide) (hts _ (tw_c tw_16)) (pq_hv rfl hR_this_now) dX11_isRing_3 ?_
    refine pg_f (v := .ref this_now_land) (C := RX10) (T := TX10) (N := 13) hx hb hts (tw_i inlX10) hown hK hP hL_this_now hK_this_now (by decide) rfl 7 (by decide) (hts _ (tw_c tw_199)) (pq_hv rfl hR_this_now_land) dX11_isRing_6 ?_
    refine pg_f (v := .int (I 64 this_now_land)) (C := RX2) (T := TX2) (N := 20) hx hb hts (tw_i inlX2) hown hK hP hL_this_now_land hK_this_now_land (by decide) rfl 0 (by decide) (hts _ (tw_c tw_200)) rfl dX11_isRing_9 ?_
    have h_1 : rg (I 64 this_now_land) 0 5 := GX.rI hG 64 rfl
    have uh_1 := h_1.1
    have vh_1 := h_1.2
    refine lv_iconst (v := 1) hx hb dX11_isRing_12 (by decide) ?_
    refine lv_isub hx hb dX11_isRing_13 ?_
    refine lv_topi (fun x_2 ex_2 => ?_)
    have h_3 : rg x_2 (-1) 4 := rg_of_eq ex_2 (rg_sub h_1 (rg_k (1 : Int32) 1 rfl) (by decide))
    have uh_3 := h_3.1
    have vh_3 := h_3.2
    have tx_2 : (x_2).toInt = (I 64 this_now_land).toInt - 1 := by rw [ex_2]; exact i_sub_rg (a2 := (I 64 this_now_land).toInt) (b2 := 1) rfl rfl h_1 (rg_k (1 : Int32) 1 rfl) (by decide)
    refine pk_i (va_runS (As := [.int a0, .int 0, .int x_2]) (rest := []) ⟨hx, hb, hml, hown, hts⟩ (s_X11_between_v l D t σ I J ri rj rq H.size tg hSH hG.1 a0 (0 : Int32) x_2) (va_cwS 3 hts (tw_S tw_215 tw_216 tw_2 tw_217) rfl rfl rfl cd_yX11_between_3 ⟨Nat.le_of_ble_eq_true rfl, Nat.le_of_ble_eq_true rfl⟩) ⟨pq_blind, pq_pre hK hN hP hD⟩ rfl rfl hl.1 rfl (lv_room (Nat.le_of_ble_eq_true rfl)) dX11_isRing_14 ⟨Nat.le_of_ble_eq_true rfl, Nat.le_of_ble_eq_true rfl⟩) hD hS hA (fun x_4 σ1 μ1 H locs hw_5 hP hD hS => ?_)
    obtain ⟨hu_6, hr_8⟩ := hw_5
    obtain ⟨hu_6a, hu_6b⟩ := Prod.mk.inj hu_6
    rw [hu_6a, hu_6b] at hP hD
    have h_9 : rg x_4 0 1 := by rcases hr_8 with ⟨q, -⟩ | ⟨q, -⟩ <;> rw [q] <;> exact ⟨by decide, by decide⟩
    have uh_9 := h_9.1
    have vh_9 := h_9.2
    rcases hr_8 with ⟨e_13, f_10, f_11⟩ | ⟨e_13, f_12⟩
    · refine lv_tov 1 e_13 ?_
      have tc_14 : 0 ≤ (a0).toInt := Int32.le_iff_toInt_le.mp f_10
      have h_15 : rg a0 0 2147483647 := rg_le2 f_10 (rg_k (0 : Int32) 0 rfl) (rg_full _) (by decide)
      have uh_15 := h_15.1
      have vh_15 := h_15.2
      have tc_16 : (a0).toInt ≤ (x_2).toInt := Int32.le_iff_toInt_le.mp f_11
      have h_17 : rg a0 0 4 := rg_le1 f_11 h_15 h_3 (by decide)
      have uh_17 := h_17.1
      have vh_17 := h_17.2
      have h_18 : rg x_2 0 4 := rg_le2 f_11 h_15 h_3 (by decide)
      have uh_18 := h_18.1
      have vh_18 := h_18.2
      subst hQ
      exact W.zret (v := 1) hx hb hr (by decide) (fun t1 ht hW => ⟨⟨1, (σ, I, J, ri, rj, rq), rfl, ⟨rfl, (Or.inl ⟨rfl, (rg_w h_17 (by decide)), (by omega)⟩)⟩, by rw [ht]; exact hP, va_K.moved hW.alike hK, hD⟩, hS.F ht⟩) hS.2.2 dX11_isRing_17
    · refine lv_tov 0 e_13 ?_
      have zk_19 : (0 : Int32).toInt = 0 := rfl
      subst hQ
      exact W.zret (v := 0) hx hb hr (by decide) (fun t1 ht hW => ⟨⟨0, (σ, I, J, ri, rj, rq), rfl, ⟨rfl, (Or.inr ⟨rfl, (by omega)⟩)⟩, by rw [ht]; exact hP, va_K.moved hW.alike hK, hD⟩, hS.F ht⟩) hS.2.2 dX11_isRing_17
  exact go _ _ _ hP hD hS hl

set_option maxHeartbeats 4000000 in
set_option maxRecDepth 100000 in
theorem s_X11_isPerson_w (l : Launch) (D : va_G) (t : pq_T) (σ : pq_S) (I : Nat → Nat → Int32) (J : Nat → Nat → Int64) (ri : Nat → Nat → Int32) (rj : Nat → Nat → Int64) (rq : Nat → Nat → Option Nat) (sz : Nat) (tg : Nat → Nat) (hSH : SH σ tg) (hG0 : GS tg σ I ri rq) (this : Nat) (a0 : Int32) (hL_this : this ∈ σ.1) (hK_this : σ.2.1 this = 11) (this_now : Nat) (hR_this_now : σ.2.2.1 352 this = some this_now) (hL_this_now : this_now ∈ σ.1) (hK_this_now : σ.2.1 this_now = 10) (this_now_folk : Nat) (hR_this_now_folk : σ.2.2.1 328 this_now = some this_now_folk) (hL_this_now_folk : this_now_folk ∈ σ.1) (hK_this_now_folk : σ.2.1 this_now_folk = 0) : MetI l yX11_isPerson (wa yX11_isPerson cX11_isPerson 2 (some .boolean)) ({ frames := 1, cells := 0, slots := 0, locals := 22 }) [.ref this, .int a0] D t σ (I, J, ri, rj, rq) sz 0 0 (fun (r : Int32) (u : pq_S × pq_M) => u = (σ, I, J, ri, rj, rq) ∧ ((r = 1 ∧ rg a0 0 39 ∧ (0 ≤ a0.toInt ∧ a0.toInt < (I 0 this_now_folk).toInt)) ∨ (r = 0 ∧ (¬ (0 ≤ a0.toInt ∧ a0.toInt < (I 0 this_now_folk).toInt))))) := by
  refine Met.ofW (cc := cX11_isPerson) (maxL := 2) (ret := (some .boolean)) (by decide) rfl ?_
  intro p e s m args below meth c s₁ B hml hv
  obtain ⟨rfl, hsz, hP, hK, hD0, hN⟩ := hv
  have hx := B.exec
  have hb := B.bytes
  have hr := B.returns
  have hts := atoms_spec (ws := (wa yX11_isPerson cX11_isPerson 2 (some .boolean))) B.pre
  have hown : s.vm.findClass RX11 = some m.cls := findClass_of_methodNamed B.named
  have hlocks := B.notSynchronized
  subst hsz
  have hD : va_D (pq_B t σ (I, J, ri, rj, rq) s.heap.size) (pq_P t σ (I, J, ri, rj, rq)) := hD0.self
  generalize hAe : pq_B t σ (I, J, ri, rj, rq) s.heap.size = A at hD ⊢
  have hA : ∀ q : Nat, s.heap.size ≤ q → A q := fun q h => by rw [← hAe]; exact Or.inr h
  have hS : va_S A s.heap s.heap [] := va_S.rf
  have hG : GX [] tg σ I ri rj I ri rj rq := ⟨hG0, fun _ _ _ => rfl, fun _ _ _ _ _ => rfl, fun _ _ _ _ _ => rfl⟩
  have hl := lv_entry ([.ref this, .int a0]) (n := 2) (Nat.le_of_ble_eq_true rfl)
  rw [lg_entry_eq]
  generalize (lg_sl ([.ref this, .int a0]) ++ List.replicate (2 - (lg_sl ([.ref this, .int a0])).length) Slot.unset).toArray = ls at hl ⊢
  have hl : lv_has ls 2 [(0, .ref this), (1, .int a0)] := hl
  refine q_gen (fun Q hQ => ?_)
  have go : ∀ (H : Heap) (locs : List Loc) (ls : Array Slot), va_P D vwCl (pq_P t σ (I, J, ri, rj, rq)) H → va_D A (pq_P t σ (I, J, ri, rj, rq)) → va_S A s.heap H locs → lv_has ls 2 [(0, .ref this), (1, .int a0)] → W p l e ({ frames := 1, cells := 0, slots := 0, locals := 22 } : Room) s m (List.toArray ([.ref this, .int a0] : List Value)) below meth c H locs 0 0 Q (F0 m 0 ls []) := by
    intro H locs ls hP hD hS hl
    refine lv_iload_n hx hb dX11_isPerson_0 rfl (lv_at hl 1 rfl) ?_
    refine lv_iconst (v := 0) hx hb dX11_isPerson_1 (by decide) ?_
    refine lv_aload_n hx hb dX11_isPerson_2 rfl (lv_at hl 0 rfl) ?_
    refine pg_f (v := .ref this_now) (C := RX11) (T := TX11) (N := 5) hx hb hts (tw_i inlX11) hown hK hP hL_this hK_this (by decide) rfl 0 (by decide) (hts _ (tw_c tw_16)) (pq_hv rfl hR_this_now) dX11_isPerson_3 ?_
    refine pg_f (v := .ref this_now_folk) (C := RX10) (T := TX10) (N := 13) hx hb hts (tw_i inlX10) hown hK hP hL_this_now hK_this_now (by decide) rfl 8 (by decide) (hts _ (tw_c tw_379)) (pq_hv rfl hR_this_now_folk) dX11_isPerson_6 ?_
    refine pg_f (v := .int (I 0 this_now_folk)) (C := RX0) (T := TX0) (N := 16) hx hb hts (tw_i inlX0) hown hK hP hL_this_now_folk hK_this_now_folk (by decide) rfl 0 (by decide) (hts _ (tw_c tw_390)) rfl dX11_isPerson_9 ?_
    have h_1 : rg (I 0 this_now_folk) 0 40 := GX.rI hG 0 rfl
    have uh_1 := h_1.1
    have vh_1 := h_1.2
    refine lv_iconst (v := 1) hx hb dX11_isPerson_12 (by decide) ?_
    refine lv_isub hx hb dX11_isPerson_13 ?_
    refine lv_topi (fun x_2 ex_2 => ?_)
    have h_3 : rg x_2 (-1) 39 := rg_of_eq ex_2 (rg_sub h_1 (rg_k (1 : Int32) 1 rfl) (by decide))
    have uh_3 := h_3.1
    have vh_3 := h_3.2
    have tx_2 : (x_2).toInt = (I 0 this_now_folk).toInt - 1 := by rw [ex_2]; exact i_sub_rg (a2 := (I 0 this_now_folk).toInt) (b2 := 1) rfl rfl h_1 (rg_k (1 : Int32) 1 rfl) (by decide)
    refine pk_i (va_runS (As := [.int a0, .int 0, .int x_2]) (rest := []) ⟨hx, hb, hml, hown, hts⟩ (s_X11_between_v l D t σ I J ri rj rq H.size tg hSH hG.1 a0 (0 : Int32) x_2) (va_cwS 3 hts (tw_S tw_215 tw_216 tw_2 tw_217) rfl rfl rfl cd_yX11_between_3 ⟨Nat.le_of_ble_eq_true rfl, Nat.le_of_ble_eq_true rfl⟩) ⟨pq_blind, pq_pre hK hN hP hD⟩ rfl rfl hl.1 rfl (lv_room (Nat.le_of_ble_eq_true rfl)) dX11_isPerson_14 ⟨Nat.le_of_ble_eq_true rfl, Nat.le_of_ble_eq_true rfl⟩) hD hS hA (fun x_4 σ1 μ1 H locs hw_5 hP hD hS => ?_)
    obtain ⟨hu_6, hr_8⟩ := hw_5
    obtain ⟨hu_6a, hu_6b⟩ := Prod.mk.inj hu_6
    rw [hu_6a, hu_6b] at hP hD
    have h_9 : rg x_4 0 1 := by rcases hr_8 with ⟨q, -⟩ | ⟨q, -⟩ <;> rw [q] <;> exact ⟨by decide, by decide⟩
    have uh_9 := h_9.1
    have vh_9 := h_9.2
    rcases hr_8 with ⟨e_13, f_10, f_11⟩ | ⟨e_13, f_12⟩
    · refine lv_tov 1 e_13 ?_
      have tc_14 : 0 ≤ (a0).toInt := Int32.le_iff_toInt_le.mp f_10
      have h_15 : rg a0 0 2147483647 := rg_le2 f_10 (rg_k (0 : Int32) 0 rfl) (rg_full _) (by decide)
      have uh_15 := h_15.1
      have vh_15 := h_15.2
      have tc_16 : (a0).toInt ≤ (x_2).toInt := Int32.le_iff_toInt_le.mp f_11
      have h_17 : rg a0 0 39 := rg_le1 f_11 h_15 h_3 (by decide)
      have uh_17 := h_17.1
      have vh_17 := h_17.2
      have h_18 : rg x_2 0 39 := rg_le2 f_11 h_15 h_3 (by decide)
      have uh_18 := h_18.1
      have vh_18 := h_18.2
      subst hQ
      exact W.zret (v := 1) hx hb hr (by decide) (fun t1 ht hW => ⟨⟨1, (σ, I, J, ri, rj, rq), rfl, ⟨rfl, (Or.inl ⟨rfl, (rg_w h_17 (by decide)), (by omega)⟩)⟩, by rw [ht]; exact hP, va_K.moved hW.alike hK, hD⟩, hS.F ht⟩) hS.2.2 dX11_isPerson_17
    · refine lv_tov 0 e_13 ?_
      have zk_19 : (0 : Int32).toInt = 0 := rfl
      subst hQ
      exact W.zret (v := 0) hx hb hr (by decide) (fun t1 ht hW => ⟨⟨0, (σ, I, J, ri, rj, rq), rfl, ⟨rfl, (Or.inr ⟨rfl, (by omega)⟩)⟩, by rw [ht]; exact hP, va_K.moved hW.alike hK, hD⟩, hS.F ht⟩) hS.2.2 dX11_isPerson_17
  exact go _ _ _ hP hD hS hl

set_option maxHeartbeats 4000000 in
set_option maxRecDepth 100000 in
theorem s_X11_wall_w (l : Launch) (D : va_G) (t : pq_T) (σ : pq_S) (I : Nat → Nat → Int32) (J : Nat → Nat → Int64) (ri : Nat → Nat → Int32) (rj : Nat → Nat → Int64) (rq : Nat → Nat → Option Nat) (sz : Nat) (tg : Nat → Nat) (hSH : SH σ tg) (hG0 : GS tg σ I ri rq) (this : Nat) (a0 : Int32) (a1 : Int32) (hL_this : this ∈ σ.1) (hK_this : σ.2.1 this = 11) (this_now : Nat) (hR_this_now : σ.2.2.1 352 this = some this_now) (hL_this_now : this_now ∈ σ.1) (hK_this_now : σ.2.1 this_now = 10) (this_now_land : Nat) (hR_this_now_land : σ.2.2.1 327 this_now = some this_now_land) (hL_this_now_land : this_now_land ∈ σ.1) (hK_this_now_land : σ.2.1 this_now_land = 2) : MetI l yX11_wall (wa yX11_wall cX11_wall 3 (some .boolean)) ({ frames := 2, cells := 0, slots := 0, locals := 43 }) [.ref this, .int a0, .int a1] D t σ (I, J, ri, rj, rq) sz 0 0 (fun (r : Int32) (u : pq_S × pq_M) => ∃ ri' : Nat → Nat → Int32, u = (σ, I, J, ri', rj, rq) ∧ GX [1075] tg σ I ri rj I ri' rj rq ∧ ((r = 1 ∧ rg a0 0 39 ∧ rg a1 0 1000 ∧ ((0 ≤ a0.toInt ∧ a0.toInt < (I 65 this_now_land).toInt) ∧ 0 ≤ a1.toInt ∧ a1.toInt ≤ 1000)) ∨ (r = 0 ∧ (¬ ((0 ≤ a0.toInt ∧ a0.toInt < (I 65 this_now_land).toInt) ∧ 0 ≤ a1.toInt ∧ a1.toInt ≤ 1000))))) := by
  refine Met.ofW (cc := cX11_wall) (maxL := 3) (ret := (some .boolean)) (by decide) rfl ?_
  intro p e s m args below meth c s₁ B hml hv
  obtain ⟨rfl, hsz, hP, hK, hD0, hN⟩ := hv
  have hx := B.exec
  have hb := B.bytes
  have hr := B.returns
  have hts := atoms_spec (ws := (wa yX11_wall cX11_wall 3 (some .boolean))) B.pre
  have hown : s.vm.findClass RX11 = some m.cls := findClass_of_methodNamed B.named
  have hlocks := B.notSynchronized
  subst hsz
  have hD : va_D (pq_B t σ (I, J, ri, rj, rq) s.heap.size) (pq_P t σ (I, J, ri, rj, rq)) := hD0.self
  generalize hAe : pq_B t σ (I, J, ri, rj, rq) s.heap.size = A at hD ⊢
  have hA : ∀ q : Nat, s.heap.size ≤ q → A q := fun q h => by rw [← hAe]; exact Or.inr h
  have hS : va_S A s.heap s.heap [] := va_S.rf
  have hG : GX [1075] tg σ I ri rj I ri rj rq := ⟨hG0, fun _ _ _ => rfl, fun _ _ _ _ _ => rfl, fun _ _ _ _ _ => rfl⟩
  have hl := lv_entry ([.ref this, .int a0, .int a1]) (n := 3) (Nat.le_of_ble_eq_true rfl)
  rw [lg_entry_eq]
  generalize (lg_sl ([.ref this, .int a0, .int a1]) ++ List.replicate (3 - (lg_sl ([.ref this, .int a0, .int a1])).length) Slot.unset).toArray = ls at hl ⊢
  have hl : lv_has ls 3 [(0, .ref this), (1, .int a0), (2, .int a1)] := hl
  refine q_gen (fun Q hQ => ?_)
  have go : ∀ (H : Heap) (locs : List Loc) (ls : Array Slot), va_P D vwCl (pq_P t σ (I, J, ri, rj, rq)) H → va_D A (pq_P t σ (I, J, ri, rj, rq)) → va_S A s.heap H locs → lv_has ls 3 [(0, .ref this), (1, .int a0), (2, .int a1)] → W p l e ({ frames := 2, cells := 0, slots := 0, locals := 43 } : Room) s m (List.toArray ([.ref this, .int a0, .int a1] : List Value)) below meth c H locs 0 0 Q (F0 m 0 ls []) := by
    intro H locs ls hP hD hS hl
    refine lv_aload_n hx hb dX11_wall_0 rfl (lv_at hl 0 rfl) ?_
    refine lv_iload_n hx hb dX11_wall_1 rfl (lv_at hl 1 rfl) ?_
    refine pk_i (va_runV (As := [.int a0]) (rest := []) ⟨hx, hb, hml, hown, hts⟩ (s_X11_isCell_w l D t σ I J ri rj rq H.size tg hSH hG.1 this a0 hL_this hK_this this_now hR_this_now hL_this_now hK_this_now this_now_land hR_this_now_land hL_this_now_land hK_this_now_land) (cwV 1 hts (tw_V tw_332 tw_333 tw_334 tw_2 tw_335) rfl rfl rfl cv_yX11_isCell_1 ⟨Nat.le_of_ble_eq_true rfl, Nat.le_of_ble_eq_true rfl⟩) ⟨pq_blind, pq_recv hK hP hL_this hK_this (by decide) rfl, pq_pre hK hN hP hD⟩ rfl rfl hl.1 rfl (lv_room (Nat.le_of_ble_eq_true rfl)) dX11_wall_2 ⟨Nat.le_of_ble_eq_true rfl, Nat.le_of_ble_eq_true rfl⟩) hD hS hA (fun x_1 σ1 μ1 H locs hw_2 hP hD hS => ?_)
    obtain ⟨hu_3, hr_5⟩ := hw_2
    obtain ⟨hu_3a, hu_3b⟩ := Prod.mk.inj hu_3
    rw [hu_3a, hu_3b] at hP hD
    have h_6 : rg x_1 0 1 := by rcases hr_5 with ⟨q, -⟩ | ⟨q, -⟩ <;> rw [q] <;> exact ⟨by decide, by decide⟩
    have uh_6 := h_6.1
    have vh_6 := h_6.2
    refine lv_if_eq (tgt := 19) hx hb dX11_wall_5 (by decide) (fun c_7 => ?_) (fun c_7 => ?_)
    · have f_8 := (hr_5.resolve_left (fun q => absurd (q.1.symm.trans c_7) (by decide))).2
      have tc_9 : (x_1).toInt = 0 := congrArg Int32.toInt c_7
      have h_10 : rg x_1 0 0 := rg_and h_6 (rg_of_eq c_7 (rg_k (0 : Int32) 0 rfl)) (by decide)
      have uh_10 := h_10.1
      have vh_10 := h_10.2
      refine lv_iconst (v := 0) hx hb dX11_wall_19 (by decide) ?_
      subst hQ
      exact W.zret (v := 0) hx hb hr (by decide) (fun t1 ht hW => ⟨⟨0, (σ, I, J, ri, rj, rq), rfl, ⟨ri, rfl, hG, (Or.inr ⟨rfl, (by omega)⟩)⟩, by rw [ht]; exact hP, va_K.moved hW.alike hK, hD⟩, hS.F ht⟩) hS.2.2 dX11_wall_20
    · obtain ⟨f_11, f_12⟩ := (hr_5.resolve_right (fun q => c_7 q.1)).2
      have tc_13 : (x_1).toInt ≠ 0 := fun q => c_7 (Int32.toInt_inj.mp q)
      have h_14 : rg x_1 1 1 := rg_ne c_7 h_6 0 rfl (by decide)
      have uh_14 := h_14.1
      have vh_14 := h_14.2
      refine lv_iload_n hx hb dX11_wall_8 rfl (lv_at hl 2 rfl) ?_
      refine lv_iconst (v := 0) hx hb dX11_wall_9 (by decide) ?_
      refine lv_sipush (v := 1000) hx hb dX11_wall_10 (by decide) ?_
      refine pk_i (va_runS (As := [.int a1, .int 0, .int 1000]) (rest := []) ⟨hx, hb, hml, hown, hts⟩ (s_X11_between_v l D t σ I J ri rj rq H.size tg hSH hG.1 a1 (0 : Int32) (1000 : Int32)) (va_cwS 3 hts (tw_S tw_215 tw_216 tw_2 tw_217) rfl rfl rfl cd_yX11_between_3 ⟨Nat.le_of_ble_eq_true rfl, Nat.le_of_ble_eq_true rfl⟩) ⟨pq_blind, pq_pre hK hN hP hD⟩ rfl rfl hl.1 rfl (lv_room (Nat.le_of_ble_eq_true rfl)) dX11_wall_13 ⟨Nat.le_of_ble_eq_true rfl, Nat.le_of_ble_eq_true rfl⟩) hD hS hA (fun x_15 σ1 μ1 H locs hw_16 hP hD hS => ?_)
      obtain ⟨hu_17, hr_19⟩ := hw_16
      obtain ⟨hu_17a, hu_17b⟩ := Prod.mk.inj hu_17
      rw [hu_17a, hu_17b] at hP hD
      have h_20 : rg x_15 0 1 := by rcases hr_19 with ⟨q, -⟩ | ⟨q, -⟩ <;> rw [q] <;> exact ⟨by decide, by decide⟩
      have uh_20 := h_20.1
      have vh_20 := h_20.2
      refine lv_if_ne (tgt := 21) hx hb dX11_wall_16 (by decide) (fun c_21 => ?_) (fun c_21 => ?_)
      · obtain ⟨f_22, f_23⟩ := (hr_19.resolve_right (fun q => c_21 q.1)).2
        have tc_24 : 0 ≤ (a1).toInt := Int32.le_iff_toInt_le.mp f_22
        have h_25 : rg a1 0 2147483647 := rg_le2 f_22 (rg_k (0 : Int32) 0 rfl) (rg_full _) (by decide)
        have uh_25 := h_25.1
        have vh_25 := h_25.2
        have tc_26 : (a1).toInt ≤ 1000 := Int32.le_iff_toInt_le.mp f_23
        have h_27 : rg a1 0 1000 := rg_le1 f_23 h_25 (rg_k (1000 : Int32) 1000 rfl) (by decide)
        have uh_27 := h_27.1
        have vh_27 := h_27.2
        have tc_28 : (x_15).toInt ≠ 0 := fun q => c_21 (Int32.toInt_inj.mp q)
        have h_29 : rg x_15 1 1 := rg_ne c_21 h_20 0 rfl (by decide)
        have uh_29 := h_29.1
        have vh_29 := h_29.2
        refine lv_aload_n hx hb dX11_wall_21 rfl (lv_at hl 0 rfl) ?_
        refine pg_f (v := .ref this_now) (C := RX11) (T := TX11) (N := 5) hx hb hts (tw_i inlX11) hown hK hP hL_this hK_this (by decide) rfl 0 (by decide) (hts _ (tw_c tw_16)) (pq_hv rfl hR_this_now) dX11_wall_22 ?_
        refine pg_f (v := .ref this_now_land) (C := RX10) (T := TX10) (N := 13) hx hb hts (tw_i inlX10) hown hK hP hL_this_now hK_this_now (by decide) rfl 7 (by decide) (hts _ (tw_c tw_199)) (pq_hv rfl hR_this_now_land) dX11_wall_25 ?_
        obtain ⟨w_30, hR_w_30, hL_w_30, hK_w_30, hN_w_30, hT_w_30⟩ := sh_a hSH 75 (ci := 2) (kd := 13) (len := 40) rfl (by decide) hL_this_now_land hK_this_now_land
        refine pg_f (v := .ref w_30) (C := RX2) (T := TX2) (N := 20) hx hb hts (tw_i inlX2) hown hK hP hL_this_now_land hK_this_now_land (by decide) rfl 11 (by decide) (hts _ (tw_c tw_331)) (pq_hv rfl hR_w_30) dX11_wall_28 ?_
        refine lv_iload_n hx hb dX11_wall_31 rfl (lv_at hl 1 rfl) ?_
        refine lv_iload_n hx hb dX11_wall_32 rfl (lv_at hl 2 rfl) ?_
        refine pt_i hx hb hK hP hD hS hL_w_30 hK_w_30 hN_w_30 (rg_in f_11 (by decide)) dX11_wall_33 (fun r_31 H locs er_31 hP hD hS => ?_)
        have hG := GX.wR hG hSH hT_w_30 rfl er_31 (rg_w h_27 (by decide)) (by decide)
        refine lv_iconst (v := 1) hx hb dX11_wall_34 (by decide) ?_
        subst hQ
        exact W.zret (v := 1) hx hb hr (by decide) (fun t1 ht hW => ⟨⟨1, (σ, I, J, r_31, rj, rq), rfl, ⟨r_31, rfl, hG, (Or.inl ⟨rfl, (rg_w f_11 (by decide)), (rg_w h_27 (by decide)), (by omega)⟩)⟩, by rw [ht]; exact hP, va_K.moved hW.alike hK, hD⟩, hS.F ht⟩) hS.2.2 dX11_wall_35
      · have f_32 := (hr_19.resolve_left (fun q => absurd (q.1.symm.trans c_21) (by decide))).2
        have zk_33 : (0 : Int32).toInt = 0 := rfl
        have zk_34 : (1000 : Int32).toInt = 1000 := rfl
        have tc_35 : (x_15).toInt = 0 := congrArg Int32.toInt c_21
        have h_36 : rg x_15 0 0 := rg_and h_20 (rg_of_eq c_21 (rg_k (0 : Int32) 0 rfl)) (by decide)
        have uh_36 := h_36.1
        have vh_36 := h_36.2
        refine lv_iconst (v := 0) hx hb dX11_wall_19 (by decide) ?_
        subst hQ
        exact W.zret (v := 0) hx hb hr (by decide) (fun t1 ht hW => ⟨⟨0, (σ, I, J, ri, rj, rq), rfl, ⟨ri, rfl, hG, (Or.inr ⟨rfl, (by omega)⟩)⟩, by rw [ht]; exact hP, va_K.moved hW.alike hK, hD⟩, hS.F ht⟩) hS.2.2 dX11_wall_20
  exact go _ _ _ hP hD hS hl

set_option maxHeartbeats 4000000 in
set_option maxRecDepth 100000 in
theorem s_X11_choose_w (l : Launch) (D : va_G) (t : pq_T) (σ : pq_S) (I : Nat → Nat → Int32) (J : Nat → Nat → Int64) (ri : Nat → Nat → Int32) (rj : Nat → Nat → Int64) (rq : Nat → Nat → Option Nat) (sz : Nat) (tg : Nat → Nat) (hSH : SH σ tg) (hG0 : GS tg σ I ri rq) (this : Nat) (a0 : Int32) (a1 : Int32) (hL_this : this ∈ σ.1) (hK_this : σ.2.1 this = 11) (this_now : Nat) (hR_this_now : σ.2.2.1 352 this = some this_now) (hL_this_now : this_now ∈ σ.1) (hK_this_now : σ.2.1 this_now = 10) (this_now_folk : Nat) (hR_this_now_folk : σ.2.2.1 328 this_now = some this_now_folk) (hL_this_now_folk : this_now_folk ∈ σ.1) (hK_this_now_folk : σ.2.1 this_now_folk = 0) : MetI l yX11_choose (wa yX11_choose cX11_choose 3 (some .boolean)) ({ frames := 2, cells := 0, slots := 0, locals := 43 }) [.ref this, .int a0, .int a1] D t σ (I, J, ri, rj, rq) sz 0 0 (fun (r : Int32) (u : pq_S × pq_M) => ∃ ri' : Nat → Nat → Int32, u = (σ, I, J, ri', rj, rq) ∧ GX [] tg σ I ri rj I ri' rj rq ∧ ((r = 1 ∧ rg a0 0 39 ∧ rg a1 (-1) 1 ∧ ((0 ≤ a0.toInt ∧ a0.toInt < (I 0 this_now_folk).toInt) ∧ (-1) ≤ a1.toInt ∧ a1.toInt ≤ 1)) ∨ (r = 0 ∧ (¬ ((0 ≤ a0.toInt ∧ a0.toInt < (I 0 this_now_folk).toInt) ∧ (-1) ≤ a1.toInt ∧ a1.toInt ≤ 1))))) := by
  refine Met.ofW (cc := cX11_choose) (maxL := 3) (ret := (some .boolean)) (by decide) rfl ?_
  intro p e s m args below meth c s₁ B hml hv
  obtain ⟨rfl, hsz, hP, hK, hD0, hN⟩ := hv
  have hx := B.exec
  have hb := B.bytes
  have hr := B.returns
  have hts := atoms_spec (ws := (wa yX11_choose cX11_choose 3 (some .boolean))) B.pre
  have hown : s.vm.findClass RX11 = some m.cls := findClass_of_methodNamed B.named
  have hlocks := B.notSynchronized
  subst hsz
  have hD : va_D (pq_B t σ (I, J, ri, rj, rq) s.heap.size) (pq_P t σ (I, J, ri, rj, rq)) := hD0.self
  generalize hAe : pq_B t σ (I, J, ri, rj, rq) s.heap.size = A at hD ⊢
  have hA : ∀ q : Nat, s.heap.size ≤ q → A q := fun q h => by rw [← hAe]; exact Or.inr h
  have hS : va_S A s.heap s.heap [] := va_S.rf
  have hG : GX [] tg σ I ri rj I ri rj rq := ⟨hG0, fun _ _ _ => rfl, fun _ _ _ _ _ => rfl, fun _ _ _ _ _ => rfl⟩
  have hl := lv_entry ([.ref this, .int a0, .int a1]) (n := 3) (Nat.le_of_ble_eq_true rfl)
  rw [lg_entry_eq]
  generalize (lg_sl ([.ref this, .int a0, .int a1]) ++ List.replicate (3 - (lg_sl ([.ref this, .int a0, .int a1])).length) Slot.unset).toArray = ls at hl ⊢
  have hl : lv_has ls 3 [(0, .ref this), (1, .int a0), (2, .int a1)] := hl
  refine q_gen (fun Q hQ => ?_)
  have go : ∀ (H : Heap) (locs : List Loc) (ls : Array Slot), va_P D vwCl (pq_P t σ (I, J, ri, rj, rq)) H → va_D A (pq_P t σ (I, J, ri, rj, rq)) → va_S A s.heap H locs → lv_has ls 3 [(0, .ref this), (1, .int a0), (2, .int a1)] → W p l e ({ frames := 2, cells := 0, slots := 0, locals := 43 } : Room) s m (List.toArray ([.ref this, .int a0, .int a1] : List Value)) below meth c H locs 0 0 Q (F0 m 0 ls []) := by
    intro H locs ls hP hD hS hl
    refine lv_aload_n hx hb dX11_choose_0 rfl (lv_at hl 0 rfl) ?_
    refine lv_iload_n hx hb dX11_choose_1 rfl (lv_at hl 1 rfl) ?_
    refine pk_i (va_runV (As := [.int a0]) (rest := []) ⟨hx, hb, hml, hown, hts⟩ (s_X11_isPerson_w l D t σ I J ri rj rq H.size tg hSH hG.1 this a0 hL_this hK_this this_now hR_this_now hL_this_now hK_this_now this_now_folk hR_this_now_folk hL_this_now_folk hK_this_now_folk) (cwV 1 hts (tw_V tw_405 tw_406 tw_407 tw_2 tw_408) rfl rfl rfl cv_yX11_isPerson_1 ⟨Nat.le_of_ble_eq_true rfl, Nat.le_of_ble_eq_true rfl⟩) ⟨pq_blind, pq_recv hK hP hL_this hK_this (by decide) rfl, pq_pre hK hN hP hD⟩ rfl rfl hl.1 rfl (lv_room (Nat.le_of_ble_eq_true rfl)) dX11_choose_2 ⟨Nat.le_of_ble_eq_true rfl, Nat.le_of_ble_eq_true rfl⟩) hD hS hA (fun x_1 σ1 μ1 H locs hw_2 hP hD hS => ?_)
    obtain ⟨hu_3, hr_5⟩ := hw_2
    obtain ⟨hu_3a, hu_3b⟩ := Prod.mk.inj hu_3
    rw [hu_3a, hu_3b] at hP hD
    have h_6 : rg x_1 0 1 := by rcases hr_5 with ⟨q, -⟩ | ⟨q, -⟩ <;> rw [q] <;> exact ⟨by decide, by decide⟩
    have uh_6 := h_6.1
    have vh_6 := h_6.2
    refine lv_if_eq (tgt := 17) hx hb dX11_choose_5 (by decide) (fun c_7 => ?_) (fun c_7 => ?_)
    · have f_8 := (hr_5.resolve_left (fun q => absurd (q.1.symm.trans c_7) (by decide))).2
      have tc_9 : (x_1).toInt = 0 := congrArg Int32.toInt c_7
      have h_10 : rg x_1 0 0 := rg_and h_6 (rg_of_eq c_7 (rg_k (0 : Int32) 0 rfl)) (by decide)
      have uh_10 := h_10.1
      have vh_10 := h_10.2
      refine lv_iconst (v := 0) hx hb dX11_choose_17 (by decide) ?_
      subst hQ
      exact W.zret (v := 0) hx hb hr (by decide) (fun t1 ht hW => ⟨⟨0, (σ, I, J, ri, rj, rq), rfl, ⟨ri, rfl, hG, (Or.inr ⟨rfl, (by omega)⟩)⟩, by rw [ht]; exact hP, va_K.moved hW.alike hK, hD⟩, hS.F ht⟩) hS.2.2 dX11_choose_18
    · obtain ⟨f_11, f_12⟩ := (hr_5.resolve_right (fun q => c_7 q.1)).2
      have tc_13 : (x_1).toInt ≠ 0 := fun q => c_7 (Int32.toInt_inj.mp q)
      have h_14 : rg x_1 1 1 := rg_ne c_7 h_6 0 rfl (by decide)
      have uh_14 := h_14.1
      have vh_14 := h_14.2
      refine lv_iload_n hx hb dX11_choose_8 rfl (lv_at hl 2 rfl) ?_
      refine lv_iconst (v := (-1)) hx hb dX11_choose_9 (by decide) ?_
      refine lv_iconst (v := 1) hx hb dX11_choose_10 (by decide) ?_
      refine pk_i (va_runS (As := [.int a1, .int (-1), .int 1]) (rest := []) ⟨hx, hb, hml, hown, hts⟩ (s_X11_between_v l D t σ I J ri rj rq H.size tg hSH hG.1 a1 (-1 : Int32) (1 : Int32)) (va_cwS 3 hts (tw_S tw_215 tw_216 tw_2 tw_217) rfl rfl rfl cd_yX11_between_3 ⟨Nat.le_of_ble_eq_true rfl, Nat.le_of_ble_eq_true rfl⟩) ⟨pq_blind, pq_pre hK hN hP hD⟩ rfl rfl hl.1 rfl (lv_room (Nat.le_of_ble_eq_true rfl)) dX11_choose_11 ⟨Nat.le_of_ble_eq_true rfl, Nat.le_of_ble_eq_true rfl⟩) hD hS hA (fun x_15 σ1 μ1 H locs hw_16 hP hD hS => ?_)
      obtain ⟨hu_17, hr_19⟩ := hw_16
      obtain ⟨hu_17a, hu_17b⟩ := Prod.mk.inj hu_17
      rw [hu_17a, hu_17b] at hP hD
      have h_20 : rg x_15 0 1 := by rcases hr_19 with ⟨q, -⟩ | ⟨q, -⟩ <;> rw [q] <;> exact ⟨by decide, by decide⟩
      have uh_20 := h_20.1
      have vh_20 := h_20.2
      refine lv_if_ne (tgt := 19) hx hb dX11_choose_14 (by decide) (fun c_21 => ?_) (fun c_21 => ?_)
      · obtain ⟨f_22, f_23⟩ := (hr_19.resolve_right (fun q => c_21 q.1)).2
        have tc_24 : (-1) ≤ (a1).toInt := Int32.le_iff_toInt_le.mp f_22
        have h_25 : rg a1 (-1) 2147483647 := rg_le2 f_22 (rg_k (-1 : Int32) (-1) rfl) (rg_full _) (by decide)
        have uh_25 := h_25.1
        have vh_25 := h_25.2
        have tc_26 : (a1).toInt ≤ 1 := Int32.le_iff_toInt_le.mp f_23
        have h_27 : rg a1 (-1) 1 := rg_le1 f_23 h_25 (rg_k (1 : Int32) 1 rfl) (by decide)
        have uh_27 := h_27.1
        have vh_27 := h_27.2
        have tc_28 : (x_15).toInt ≠ 0 := fun q => c_21 (Int32.toInt_inj.mp q)
        have h_29 : rg x_15 1 1 := rg_ne c_21 h_20 0 rfl (by decide)
        have uh_29 := h_29.1
        have vh_29 := h_29.2
        refine lv_aload_n hx hb dX11_choose_19 rfl (lv_at hl 0 rfl) ?_
        refine pg_f (v := .ref this_now) (C := RX11) (T := TX11) (N := 5) hx hb hts (tw_i inlX11) hown hK hP hL_this hK_this (by decide) rfl 0 (by decide) (hts _ (tw_c tw_16)) (pq_hv rfl hR_this_now) dX11_choose_20 ?_
        refine pg_f (v := .ref this_now_folk) (C := RX10) (T := TX10) (N := 13) hx hb hts (tw_i inlX10) hown hK hP hL_this_now hK_this_now (by decide) rfl 8 (by decide) (hts _ (tw_c tw_379)) (pq_hv rfl hR_this_now_folk) dX11_choose_23 ?_
        obtain ⟨w_30, hR_w_30, hL_w_30, hK_w_30, hN_w_30, hT_w_30⟩ := sh_a hSH 9 (ci := 0) (kd := 13) (len := 40) rfl (by decide) hL_this_now_folk hK_this_now_folk
        refine pg_f (v := .ref w_30) (C := RX0) (T := TX0) (N := 16) hx hb hts (tw_i inlX0) hown hK hP hL_this_now_folk hK_this_now_folk (by decide) rfl 9 (by decide) (hts _ (tw_c tw_1325)) (pq_hv rfl hR_w_30) dX11_choose_26 ?_
        refine lv_iload_n hx hb dX11_choose_29 rfl (lv_at hl 1 rfl) ?_
        refine lv_iload_n hx hb dX11_choose_30 rfl (lv_at hl 2 rfl) ?_
        refine pt_i hx hb hK hP hD hS hL_w_30 hK_w_30 hN_w_30 (rg_in f_11 (by decide)) dX11_choose_31 (fun r_31 H locs er_31 hP hD hS => ?_)
        have hG := GX.wR hG hSH hT_w_30 rfl er_31 (rg_w h_27 (by decide)) (by decide)
        refine lv_iconst (v := 1) hx hb dX11_choose_32 (by decide) ?_
        subst hQ
        exact W.zret (v := 1) hx hb hr (by decide) (fun t1 ht hW => ⟨⟨1, (σ, I, J, r_31, rj, rq), rfl, ⟨r_31, rfl, hG, (Or.inl ⟨rfl, (rg_w f_11 (by decide)), (rg_w h_27 (by decide)), (by omega)⟩)⟩, by rw [ht]; exact hP, va_K.moved hW.alike hK, hD⟩, hS.F ht⟩) hS.2.2 dX11_choose_33
      · have f_32 := (hr_19.resolve_left (fun q => absurd (q.1.symm.trans c_21) (by decide))).2
        have zk_33 : (-1 : Int32).toInt = -1 := rfl
        have zk_34 : (1 : Int32).toInt = 1 := rfl
        have tc_35 : (x_15).toInt = 0 := congrArg Int32.toInt c_21
        have h_36 : rg x_15 0 0 := rg_and h_20 (rg_of_eq c_21 (rg_k (0 : Int32) 0 rfl)) (by decide)
        have uh_36 := h_36.1
        have vh_36 := h_36.2
        refine lv_iconst (v := 0) hx hb dX11_choose_17 (by decide) ?_
        subst hQ
        exact W.zret (v := 0) hx hb hr (by decide) (fun t1 ht hW => ⟨⟨0, (σ, I, J, ri, rj, rq), rfl, ⟨ri, rfl, hG, (Or.inr ⟨rfl, (by omega)⟩)⟩, by rw [ht]; exact hP, va_K.moved hW.alike hK, hD⟩, hS.F ht⟩) hS.2.2 dX11_choose_18
  exact go _ _ _ hP hD hS hl

set_option maxHeartbeats 4000000 in
set_option maxRecDepth 100000 in
theorem s_X11_ring_w (l : Launch) (D : va_G) (t : pq_T) (σ : pq_S) (I : Nat → Nat → Int32) (J : Nat → Nat → Int64) (ri : Nat → Nat → Int32) (rj : Nat → Nat → Int64) (rq : Nat → Nat → Option Nat) (sz : Nat) (tg : Nat → Nat) (hSH : SH σ tg) (hG0 : GS tg σ I ri rq) (this : Nat) (hL_this : this ∈ σ.1) (hK_this : σ.2.1 this = 11) (this_now : Nat) (hR_this_now : σ.2.2.1 352 this = some this_now) (hL_this_now : this_now ∈ σ.1) (hK_this_now : σ.2.1 this_now = 10) (this_now_land : Nat) (hR_this_now_land : σ.2.2.1 327 this_now = some this_now_land) (hL_this_now_land : this_now_land ∈ σ.1) (hK_this_now_land : σ.2.1 this_now_land = 2) : MetI l yX11_ring (wa yX11_ring cX11_ring 2 (some .int)) ({ frames := 0, cells := 0, slots := 0, locals := 0 }) [.ref this] D t σ (I, J, ri, rj, rq) sz 0 0 (fun (r : Int32) (u : pq_S × pq_M) => ∃ I' : Nat → Nat → Int32, u = (σ, I', J, ri, rj, rq) ∧ GX [64] tg σ I ri rj I' ri rj rq ∧ ((((I 64 this_now_land).toInt < 5) ∧ r.toInt = (I 64 this_now_land).toInt ∧ (I' 64 this_now_land).toInt = (I 64 this_now_land).toInt + 1) ∨ (¬ ((I 64 this_now_land).toInt < 5) ∧ r.toInt = -1 ∧ (I' 64 this_now_land).toInt = (I 64 this_now_land).toInt)) ∧ (PU1 64 this_now_land I I') ∧ rg r (-1) 4) := by
  refine Met.ofW (cc := cX11_ring) (maxL := 2) (ret := (some .int)) (by decide) rfl ?_
  intro p e s m args below meth c s₁ B hml hv
  obtain ⟨rfl, hsz, hP, hK, hD0, hN⟩ := hv
  have hx := B.exec
  have hb := B.bytes
  have hr := B.returns
  have hts := atoms_spec (ws := (wa yX11_ring cX11_ring 2 (some .int))) B.pre
  have hown : s.vm.findClass RX11 = some m.cls := findClass_of_methodNamed B.named
  have hlocks := B.notSynchronized
  subst hsz
  have hD : va_D (pq_B t σ (I, J, ri, rj, rq) s.heap.size) (pq_P t σ (I, J, ri, rj, rq)) := hD0.self
  generalize hAe : pq_B t σ (I, J, ri, rj, rq) s.heap.size = A at hD ⊢
  have hA : ∀ q : Nat, s.heap.size ≤ q → A q := fun q h => by rw [← hAe]; exact Or.inr h
  have hS : va_S A s.heap s.heap [] := va_S.rf
  have hG : GX [64] tg σ I ri rj I ri rj rq := ⟨hG0, fun _ _ _ => rfl, fun _ _ _ _ _ => rfl, fun _ _ _ _ _ => rfl⟩
  have hl := lv_entry ([.ref this]) (n := 2) (Nat.le_of_ble_eq_true rfl)
  rw [lg_entry_eq]
  generalize (lg_sl ([.ref this]) ++ List.replicate (2 - (lg_sl ([.ref this])).length) Slot.unset).toArray = ls at hl ⊢
  have hl : lv_has ls 2 [(0, .ref this)] := hl
  refine q_gen (fun Q hQ => ?_)
  have go : ∀ (H : Heap) (locs : List Loc) (ls : Array Slot), va_P D vwCl (pq_P t σ (I, J, ri, rj, rq)) H → va_D A (pq_P t σ (I, J, ri, rj, rq)) → va_S A s.heap H locs → lv_has ls 2 [(0, .ref this)] → W p l e ({ frames := 0, cells := 0, slots := 0, locals := 0 } : Room) s m (List.toArray ([.ref this] : List Value)) below meth c H locs 0 0 Q (F0 m 0 ls []) := by
    intro H locs ls hP hD hS hl
    refine lv_aload_n hx hb dX11_ring_0 rfl (lv_at hl 0 rfl) ?_
    refine pg_f (v := .ref this_now) (C := RX11) (T := TX11) (N := 5) hx hb hts (tw_i inlX11) hown hK hP hL_this hK_this (by decide) rfl 0 (by decide) (hts _ (tw_c tw_16)) (pq_hv rfl hR_this_now) dX11_ring_1 ?_
    refine pg_f (v := .ref this_now_land) (C := RX10) (T := TX10) (N := 13) hx hb hts (tw_i inlX10) hown hK hP hL_this_now hK_this_now (by decide) rfl 7 (by decide) (hts _ (tw_c tw_199)) (pq_hv rfl hR_this_now_land) dX11_ring_4 ?_
    refine lv_astore_n (lv' := [(1, .ref this_now_land), (0, .ref this)]) hx hb dX11_ring_7 rfl hl (by decide) rfl (fun ls hl => ?_)
    refine lv_aload_n hx hb dX11_ring_8 rfl (lv_at hl 0 rfl) ?_
    refine pg_f (v := .int (I 64 this_now_land)) (C := RX2) (T := TX2) (N := 20) hx hb hts (tw_i inlX2) hown hK hP hL_this_now_land hK_this_now_land (by decide) rfl 0 (by decide) (hts _ (tw_c tw_200)) rfl dX11_ring_9 ?_
    have h_1 : rg (I 64 this_now_land) 0 5 := GX.rI hG 64 rfl
    have uh_1 := h_1.1
    have vh_1 := h_1.2
    refine lv_iconst (v := 5) hx hb dX11_ring_12 (by decide) ?_
    refine lv_icmp_lt (tgt := 18) hx hb dX11_ring_13 (by decide) (fun c_2 => ?_) (fun c_2 => ?_)
    · have tc_3 : (I 64 this_now_land).toInt < 5 := Int32.lt_iff_toInt_lt.mp c_2
      have h_4 : rg (I 64 this_now_land) 0 4 := rg_lt1 c_2 h_1 (rg_k (5 : Int32) 5 rfl) (by decide)
      have uh_4 := h_4.1
      have vh_4 := h_4.2
      refine lv_aload_n hx hb dX11_ring_18 rfl (lv_at hl 0 rfl) ?_
      refine lv_dup hx hb dX11_ring_19 rfl ?_
      refine pg_f (v := .int (I 64 this_now_land)) (C := RX2) (T := TX2) (N := 20) hx hb hts (tw_i inlX2) hown hK hP hL_this_now_land hK_this_now_land (by decide) rfl 0 (by decide) (hts _ (tw_c tw_200)) rfl dX11_ring_20 ?_
      refine lv_iconst (v := 1) hx hb dX11_ring_23 (by decide) ?_
      refine lv_iadd hx hb dX11_ring_24 ?_
      refine lv_topi (fun x_5 ex_5 => ?_)
      have h_6 : rg x_5 1 5 := rg_of_eq ex_5 (rg_add h_4 (rg_k (1 : Int32) 1 rfl) (by decide))
      have uh_6 := h_6.1
      have vh_6 := h_6.2
      have tx_5 : (x_5).toInt = (I 64 this_now_land).toInt + 1 := by rw [ex_5]; exact i_add_rg (a2 := (I 64 this_now_land).toInt) (b2 := 1) rfl rfl h_4 (rg_k (1 : Int32) 1 rfl) (by decide)
      refine pp_i (v := x_5) (ty := .int) (C := RX2) (T := TX2) (N := 20) hx hb hts (tw_i inlX2) tyX2 tyX2_ok nmX2 hown hK hP hD hS hL_this_now_land hK_this_now_land (by decide) rfl 0 64 (by decide) (hts _ (tw_c tw_200)) rfl (tyX2_ok 0 (by decide)) rfl rfl (Nat.le_of_ble_eq_true rfl) (ps_64 _ _ _ _ _) dX11_ring_25 (fun I_7 H locs eI_7 hP hD hS => ?_)
      have hG := GX.wI hG 64 rfl eI_7 (rg_w h_6 (by decide)) (by decide)
      have tt_8 : (I_7 64 this_now_land).toInt = (x_5).toInt := by rw [eI_7, pq_us]
      refine lv_aload_n hx hb dX11_ring_28 rfl (lv_at hl 0 rfl) ?_
      refine pg_f (v := .int (I_7 64 this_now_land)) (C := RX2) (T := TX2) (N := 20) hx hb hts (tw_i inlX2) hown hK hP hL_this_now_land hK_this_now_land (by decide) rfl 0 (by decide) (hts _ (tw_c tw_200)) rfl dX11_ring_29 ?_
      have h_9 : rg (I_7 64 this_now_land) 1 5 := (by rw [eI_7, pq_us]; exact h_6)
      have uh_9 := h_9.1
      have vh_9 := h_9.2
      refine lv_iconst (v := 1) hx hb dX11_ring_32 (by decide) ?_
      refine lv_isub hx hb dX11_ring_33 ?_
      refine lv_topi (fun x_10 ex_10 => ?_)
      have h_11 : rg x_10 0 4 := rg_of_eq ex_10 (rg_sub h_9 (rg_k (1 : Int32) 1 rfl) (by decide))
      have uh_11 := h_11.1
      have vh_11 := h_11.2
      have tx_10 : (x_10).toInt = (I_7 64 this_now_land).toInt - 1 := by rw [ex_10]; exact i_sub_rg (a2 := (I_7 64 this_now_land).toInt) (b2 := 1) rfl rfl h_9 (rg_k (1 : Int32) 1 rfl) (by decide)
      subst hQ
      exact W.iret (v := x_10) hx hb hr (fun t1 ht hW => ⟨⟨x_10, (σ, I_7, J, ri, rj, rq), rfl, ⟨I_7, rfl, hG, (by have k0 : (-1 : Int32).toInt = -1 := rfl; omega), (pu_t pu_rf (pu_p eI_7)), (rg_w h_11 (by decide))⟩, by rw [ht]; exact hP, va_K.moved hW.alike hK, hD⟩, hS.F ht⟩) hS.2.2 dX11_ring_34
    · have tc_12 : 5 ≤ (I 64 this_now_land).toInt := Int32.le_iff_toInt_le.mp (nlt c_2)
      have h_13 : rg (I 64 this_now_land) 5 5 := rg_le2 (nlt c_2) (rg_k (5 : Int32) 5 rfl) h_1 (by decide)
      have uh_13 := h_13.1
      have vh_13 := h_13.2
      refine lv_iconst (v := (-1)) hx hb dX11_ring_16 (by decide) ?_
      subst hQ
      exact W.iret (v := (-1)) hx hb hr (fun t1 ht hW => ⟨⟨(-1), (σ, I, J, ri, rj, rq), rfl, ⟨I, rfl, hG, (by have k0 : (-1 : Int32).toInt = -1 := rfl; omega), pu_rf, (rg_w (rg_k (-1 : Int32) (-1) rfl) (by decide))⟩, by rw [ht]; exact hP, va_K.moved hW.alike hK, hD⟩, hS.F ht⟩) hS.2.2 dX11_ring_17
  exact go _ _ _ hP hD hS hl

set_option maxHeartbeats 4000000 in
set_option maxRecDepth 100000 in
theorem s_X2_addCell_w (l : Launch) (D : va_G) (t : pq_T) (σ : pq_S) (I : Nat → Nat → Int32) (J : Nat → Nat → Int64) (ri : Nat → Nat → Int32) (rj : Nat → Nat → Int64) (rq : Nat → Nat → Option Nat) (sz : Nat) (tg : Nat → Nat) (hSH : SH σ tg) (hG0 : GS tg σ I ri rq) (this : Nat) (a0 : Int32) (a1 : Int32) (a2 : Int32) (a3 : Int32) (a4 : Int32) (a5 : Int32) (hL_this : this ∈ σ.1) (hK_this : σ.2.1 this = 2) (h_a0 : rg a0 0 4) (h_a2 : rg a2 0 31) (h_a3 : rg a3 0 31) : MetI l yX2_addCell (wa yX2_addCell cX2_addCell 8 (some .int)) ({ frames := 1, cells := 0, slots := 0, locals := 24 }) [.ref this, .int a0, .int a1, .int a2, .int a3, .int a4, .int a5] D t σ (I, J, ri, rj, rq) sz 0 0 (fun (r : Int32) (u : pq_S × pq_M) => ∃ I' : Nat → Nat → Int32, ∃ ri' : Nat → Nat → Int32, u = (σ, I', J, ri', rj, rq) ∧ GX [1069, 1070, 1073, 1074, 1079, 65] tg σ I ri rj I' ri' rj rq ∧ ((((I 65 this).toInt < 40) ∧ r.toInt = (I 65 this).toInt ∧ (I' 65 this).toInt = (I 65 this).toInt + 1) ∨ (¬ ((I 65 this).toInt < 40) ∧ r.toInt = -1 ∧ (I' 65 this).toInt = (I 65 this).toInt)) ∧ (PU1 65 this I I') ∧ rg r (-1) 39) := by
  refine Met.ofW (cc := cX2_addCell) (maxL := 8) (ret := (some .int)) (by decide) rfl ?_
  intro p e s m args below meth c s₁ B hml hv
  obtain ⟨rfl, hsz, hP, hK, hD0, hN⟩ := hv
  have hx := B.exec
  have hb := B.bytes
  have hr := B.returns
  have hts := atoms_spec (ws := (wa yX2_addCell cX2_addCell 8 (some .int))) B.pre
  have hown : s.vm.findClass RX2 = some m.cls := findClass_of_methodNamed B.named
  have hlocks := B.notSynchronized
  subst hsz
  have hD : va_D (pq_B t σ (I, J, ri, rj, rq) s.heap.size) (pq_P t σ (I, J, ri, rj, rq)) := hD0.self
  generalize hAe : pq_B t σ (I, J, ri, rj, rq) s.heap.size = A at hD ⊢
  have hA : ∀ q : Nat, s.heap.size ≤ q → A q := fun q h => by rw [← hAe]; exact Or.inr h
  have hS : va_S A s.heap s.heap [] := va_S.rf
  have hG : GX [1069, 1070, 1073, 1074, 1079, 65] tg σ I ri rj I ri rj rq := ⟨hG0, fun _ _ _ => rfl, fun _ _ _ _ _ => rfl, fun _ _ _ _ _ => rfl⟩
  have hl := lv_entry ([.ref this, .int a0, .int a1, .int a2, .int a3, .int a4, .int a5]) (n := 8) (Nat.le_of_ble_eq_true rfl)
  rw [lg_entry_eq]
  generalize (lg_sl ([.ref this, .int a0, .int a1, .int a2, .int a3, .int a4, .int a5]) ++ List.replicate (8 - (lg_sl ([.ref this, .int a0, .int a1, .int a2, .int a3, .int a4, .int a5])).length) Slot.unset).toArray = ls at hl ⊢
  have hl : lv_has ls 8 [(0, .ref this), (1, .int a0), (2, .int a1), (3, .int a2), (4, .int a3), (5, .int a4), (6, .int a5)] := hl
  refine q_gen (fun Q hQ => ?_)
  have go : ∀ (H : Heap) (locs : List Loc) (ls : Array Slot), va_P D vwCl (pq_P t σ (I, J, ri, rj, rq)) H → va_D A (pq_P t σ (I, J, ri, rj, rq)) → va_S A s.heap H locs → lv_has ls 8 [(0, .ref this), (1, .int a0), (2, .int a1), (3, .int a2), (4, .int a3), (5, .int a4), (6, .int a5)] → W p l e ({ frames := 1, cells := 0, slots := 0, locals := 24 } : Room) s m (List.toArray ([.ref this, .int a0, .int a1, .int a2, .int a3, .int a4, .int a5] : List Value)) below meth c H locs 0 0 Q (F0 m 0 ls []) := by
    intro H locs ls hP hD hS hl
    refine lv_aload_n hx hb dX2_addCell_0 rfl (lv_at hl 0 rfl) ?_
    refine pg_f (v := .int (I 65 this)) (C := RX2) (T := TX2) (N := 20) hx hb hts (tw_i inlX2) hown hK hP hL_this hK_this (by decide) rfl 1 (by decide) (hts _ (tw_c tw_222)) rfl dX2_addCell_1 ?_
    have h_1 : rg (I 65 this) 0 40 := GX.rI hG 65 rfl
    have uh_1 := h_1.1
    have vh_1 := h_1.2
    refine lv_bipush (v := 40) hx hb dX2_addCell_4 (by decide) ?_
    refine lv_icmp_lt (tgt := 11) hx hb dX2_addCell_6 (by decide) (fun c_2 => ?_) (fun c_2 => ?_)
    · have tc_3 : (I 65 this).toInt < 40 := Int32.lt_iff_toInt_lt.mp c_2
      have h_4 : rg (I 65 this) 0 39 := rg_lt1 c_2 h_1 (rg_k (40 : Int32) 40 rfl) (by decide)
      have uh_4 := h_4.1
      have vh_4 := h_4.2
      refine lv_aload_n hx hb dX2_addCell_11 rfl (lv_at hl 0 rfl) ?_
      refine pg_f (v := .int (I 65 this)) (C := RX2) (T := TX2) (N := 20) hx hb hts (tw_i inlX2) hown hK hP hL_this hK_this (by decide) rfl 1 (by decide) (hts _ (tw_c tw_222)) rfl dX2_addCell_12 ?_
      refine lv_istore (lv' := [(7, .int (I 65 this)), (0, .ref this), (1, .int a0), (2, .int a1), (3, .int a2), (4, .int a3), (5, .int a4), (6, .int a5)]) hx hb dX2_addCell_15 hl (by decide) rfl (fun ls hl => ?_)
      refine lv_aload_n hx hb dX2_addCell_17 rfl (lv_at hl 1 rfl) ?_
      obtain ⟨w_5, hR_w_5, hL_w_5, hK_w_5, hN_w_5, hT_w_5⟩ := sh_a hSH 69 (ci := 2) (kd := 13) (len := 40) rfl (by decide) hL_this hK_this
      refine pg_f (v := .ref w_5) (C := RX2) (T := TX2) (N := 20) hx hb hts (tw_i inlX2) hown hK hP hL_this hK_this (by decide) rfl 5 (by decide) (hts _ (tw_c tw_83)) (pq_hv rfl hR_w_5) dX2_addCell_18 ?_
      refine lv_iload hx hb dX2_addCell_21 (lv_at hl 0 rfl) ?_
      refine lv_iload_n hx hb dX2_addCell_23 rfl (lv_at hl 2 rfl) ?_
      refine pt_i hx hb hK hP hD hS hL_w_5 hK_w_5 hN_w_5 (rg_in h_4 (by decide)) dX2_addCell_24 (fun r_6 H locs er_6 hP hD hS => ?_)
      have hG := GX.wR hG hSH hT_w_5 rfl er_6 (rg_w h_a0 (by decide)) (by decide)
      refine lv_aload_n hx hb dX2_addCell_25 rfl (lv_at hl 1 rfl) ?_
      obtain ⟨w_7, hR_w_7, hL_w_7, hK_w_7, hN_w_7, hT_w_7⟩ := sh_a hSH 70 (ci := 2) (kd := 13) (len := 40) rfl (by decide) hL_this hK_this
      refine pg_f (v := .ref w_7) (C := RX2) (T := TX2) (N := 20) hx hb hts (tw_i inlX2) hown hK hP hL_this hK_this (by decide) rfl 6 (by decide) (hts _ (tw_c tw_84)) (pq_hv rfl hR_w_7) dX2_addCell_26 ?_
      refine lv_iload hx hb dX2_addCell_29 (lv_at hl 0 rfl) ?_
      refine lv_iload_n hx hb dX2_addCell_31 rfl (lv_at hl 3 rfl) ?_
      refine pt_i hx hb hK hP hD hS hL_w_7 hK_w_7 hN_w_7 (rg_in h_4 (by decide)) dX2_addCell_32 (fun r_8 H locs er_8 hP hD hS => ?_)
      have hG := GX.wR hG hSH hT_w_7 rfl er_8 (rg_w (rg_full _) (by decide)) (by decide)
      refine lv_aload_n hx hb dX2_addCell_33 rfl (lv_at hl 1 rfl) ?_
      obtain ⟨w_9, hR_w_9, hL_w_9, hK_w_9, hN_w_9, hT_w_9⟩ := sh_a hSH 71 (ci := 2) (kd := 13) (len := 40) rfl (by decide) hL_this hK_this
      refine pg_f (v := .ref w_9) (C := RX2) (T := TX2) (N := 20) hx hb hts (tw_i inlX2) hown hK hP hL_this hK_this (by decide) rfl 7 (by decide) (hts _ (tw_c tw_85)) (pq_hv rfl hR_w_9) dX2_addCell_34 ?_
      refine lv_iload hx hb dX2_addCell_37 (lv_at hl 0 rfl) ?_
      refine lv_iload_n hx hb dX2_addCell_39 rfl (lv_at hl 4 rfl) ?_
      refine pt_i hx hb hK hP hD hS hL_w_9 hK_w_9 hN_w_9 (rg_in h_4 (by decide)) dX2_addCell_40 (fun r_10 H locs er_10 hP hD hS => ?_)
      have hG := GX.wR hG hSH hT_w_9 rfl er_10 (rg_w h_a2 (by decide)) (by decide)
      refine lv_aload_n hx hb dX2_addCell_41 rfl (lv_at hl 1 rfl) ?_
      obtain ⟨w_11, hR_w_11, hL_w_11, hK_w_11, hN_w_11, hT_w_11⟩ := sh_a hSH 72 (ci := 2) (kd := 13) (len := 40) rfl (by decide) hL_this hK_this
      refine pg_f (v := .ref w_11) (C := RX2) (T := TX2) (N := 20) hx hb hts (tw_i inlX2) hown hK hP hL_this hK_this (by decide) rfl 8 (by decide) (hts _ (tw_c tw_86)) (pq_hv rfl hR_w_11) dX2_addCell_42 ?_
      refine lv_iload hx hb dX2_addCell_45 (lv_at hl 0 rfl) ?_
      refine lv_iload hx hb dX2_addCell_47 (lv_at hl 5 rfl) ?_
      refine pt_i hx hb hK hP hD hS hL_w_11 hK_w_11 hN_w_11 (rg_in h_4 (by decide)) dX2_addCell_49 (fun r_12 H locs er_12 hP hD hS => ?_)
      have hG := GX.wR hG hSH hT_w_11 rfl er_12 (rg_w h_a3 (by decide)) (by decide)
      refine lv_aload_n hx hb dX2_addCell_50 rfl (lv_at hl 1 rfl) ?_
      obtain ⟨w_13, hR_w_13, hL_w_13, hK_w_13, hN_w_13, hT_w_13⟩ := sh_a hSH 73 (ci := 2) (kd := 13) (len := 40) rfl (by decide) hL_this hK_this
      refine pg_f (v := .ref w_13) (C := RX2) (T := TX2) (N := 20) hx hb hts (tw_i inlX2) hown hK hP hL_this hK_this (by decide) rfl 9 (by decide) (hts _ (tw_c tw_87)) (pq_hv rfl hR_w_13) dX2_addCell_51 ?_
      refine lv_iload hx hb dX2_addCell_54 (lv_at hl 0 rfl) ?_
      refine lv_iload hx hb dX2_addCell_56 (lv_at hl 6 rfl) ?_
      refine pt_i hx hb hK hP hD hS hL_w_13 hK_w_13 hN_w_13 (rg_in h_4 (by decide)) dX2_addCell_58 (fun r_14 H locs er_14 hP hD hS => ?_)
      have hG := GX.wR hG hSH hT_w_13 rfl er_14 (rg_w (rg_full _) (by decide)) (by decide)
      refine lv_aload_n hx hb dX2_addCell_59 rfl (lv_at hl 1 rfl) ?_
      obtain ⟨w_15, hR_w_15, hL_w_15, hK_w_15, hN_w_15, hT_w_15⟩ := sh_a hSH 74 (ci := 2) (kd := 13) (len := 40) rfl (by decide) hL_this hK_this
      refine pg_f (v := .ref w_15) (C := RX2) (T := TX2) (N := 20) hx hb hts (tw_i inlX2) hown hK hP hL_this hK_this (by decide) rfl 10 (by decide) (hts _ (tw_c tw_88)) (pq_hv rfl hR_w_15) dX2_addCell_60 ?_
      refine lv_iload hx hb dX2_addCell_63 (lv_at hl 0 rfl) ?_
      refine lv_iload hx hb dX2_addCell_65 (lv_at hl 7 rfl) ?_
      refine pt_i hx hb hK hP hD hS hL_w_15 hK_w_15 hN_w_15 (rg_in h_4 (by decide)) dX2_addCell_67 (fun r_16 H locs er_16 hP hD hS => ?_)
      have hG := GX.wR hG hSH hT_w_15 rfl er_16 (rg_w (rg_full _) (by decide)) (by decide)
      refine lv_aload_n hx hb dX2_addCell_68 rfl (lv_at hl 1 rfl) ?_
      refine lv_iload hx hb dX2_addCell_69 (lv_at hl 0 rfl) ?_
      refine lv_iload_n hx hb dX2_addCell_71 rfl (lv_at hl 2 rfl) ?_
      refine pk_v (va_runV (As := [.int (I 65 this), .int a0]) (rest := []) ⟨hx, hb, hml, hown, hts⟩ (s_X2_joinRing l D t σ I J r_16 rj rq H.size tg hSH hG.1 this (I 65 this) a0 hL_this hK_this (rg_w h_4 (by decide)) (rg_w h_a0 (by decide))) (cwV 2 hts (tw_V tw_223 tw_224 tw_225 tw_41 tw_226) rfl rfl rfl cv_yX2_joinRing_2 ⟨Nat.le_of_ble_eq_true rfl, Nat.le_of_ble_eq_true rfl⟩) ⟨pq_blind, pq_recv hK hP hL_this hK_this (by decide) rfl, pq_pre hK hN hP hD⟩ rfl rfl hl.1 rfl (lv_room (Nat.le_of_ble_eq_true rfl)) dX2_addCell_72 ⟨Nat.le_of_ble_eq_true rfl, Nat.le_of_ble_eq_true rfl⟩) hD hS hA (fun σ1 μ1 H locs hw_18 hP hD hS => ?_)
      obtain ⟨ri_19, hu_20, hg_21⟩ := hw_18
      obtain ⟨hu_20a, hu_20b⟩ := Prod.mk.inj hu_20
      rw [hu_20a, hu_20b] at hP hD
      have hG := GX.tr hG hg_21 (by decide)
      refine lv_aload_n hx hb dX2_addCell_75 rfl (lv_at hl 1 rfl) ?_
      refine lv_dup hx hb dX2_addCell_76 rfl ?_
      refine pg_f (v := .int (I 65 this)) (C := RX2) (T := TX2) (N := 20) hx hb hts (tw_i inlX2) hown hK hP hL_this hK_this (by decide) rfl 1 (by decide) (hts _ (tw_c tw_222)) rfl dX2_addCell_77 ?_
      refine lv_iconst (v := 1) hx hb dX2_addCell_80 (by decide) ?_
      refine lv_iadd hx hb dX2_addCell_81 ?_
      refine lv_topi (fun x_23 ex_23 => ?_)
      have h_24 : rg x_23 1 40 := rg_of_eq ex_23 (rg_add h_4 (rg_k (1 : Int32) 1 rfl) (by decide))
      have uh_24 := h_24.1
      have vh_24 := h_24.2
      have tx_23 : (x_23).toInt = (I 65 this).toInt + 1 := by rw [ex_23]; exact i_add_rg (a2 := (I 65 this).toInt) (b2 := 1) rfl rfl h_4 (rg_k (1 : Int32) 1 rfl) (by decide)
      refine pp_i (v := x_23) (ty := .int) (C := RX2) (T := TX2) (N := 20) hx hb hts (tw_i inlX2) tyX2 tyX2_ok nmX2 hown hK hP hD hS hL_this hK_this (by decide) rfl 1 65 (by decide) (hts _ (tw_c tw_222)) rfl (tyX2_ok 1 (by decide)) rfl rfl (Nat.le_of_ble_eq_true rfl) (ps_65 _ _ _ _ _) dX2_addCell_82 (fun I_25 H locs eI_25 hP hD hS => ?_)
      have hG := GX.wI hG 65 rfl eI_25 (rg_w h_24 (by decide)) (by decide)
      have tt_26 : (I_25 65 this).toInt = (x_23).toInt := by rw [eI_25, pq_us]
      refine lv_iload hx hb dX2_addCell_85 (lv_at hl 0 rfl) ?_
      subst hQ
      exact W.iret (v := (I 65 this)) hx hb hr (fun t1 ht hW => ⟨⟨(I 65 this), (σ, I_25, J, ri_19, rj, rq), rfl, ⟨I_25, ri_19, rfl, hG, (by have k0 : (-1 : Int32).toInt = -1 := rfl; omega), (pu_t pu_rf (pu_p eI_25)), (rg_w h_4 (by decide))⟩, by rw [ht]; exact hP, va_K.moved hW.alike hK, hD⟩, hS.F ht⟩) hS.2.2 dX2_addCell_87
    · have tc_27 : 40 ≤ (I 65 this).toInt := Int32.le_iff_toInt_le.mp (nlt c_2)
      have h_28 : rg (I 65 this) 40 40 := rg_le2 (nlt c_2) (rg_k (40 : Int32) 40 rfl) h_1 (by decide)
      have uh_28 := h_28.1
      have vh_28 := h_28.2
      refine lv_iconst (v := (-1)) hx hb dX2_addCell_9 (by decide) ?_
      subst hQ
      exact W.iret (v := (-1)) hx hb hr (fun t1 ht hW => ⟨⟨(-1), (σ, I, J, ri, rj, rq), rfl, ⟨I, ri, rfl, hG, (by have k0 : (-1 : Int32).toInt = -1 := rfl; omega), pu_rf, (rg_w (rg_k (-1 : Int32) (-1) rfl) (by decide))⟩, by rw [ht]; exact hP, va_K.moved hW.alike hK, hD⟩, hS.F ht⟩) hS.2.2 dX2_addCell_10
  exact go _ _ _ hP hD hS hl

set_option maxHeartbeats 4000000 in
set_option maxRecDepth 100000 in
theorem s_X11_cell_w (l : Launch) (D : va_G) (t : pq_T) (σ : pq_S) (I : Nat → Nat → Int32) (J : Nat → Nat → Int64) (ri : Nat → Nat → Int32) (rj : Nat → Nat → Int64) (rq : Nat → Nat → Option Nat) (sz : Nat) (tg : Nat → Nat) (hSH : SH σ tg) (hG0 : GS tg σ I ri rq) (this : Nat) (a0 : Int32) (a1 : Int32) (a2 : Int32) (a3 : Int32) (a4 : Int32) (a5 : Int32) (hL_this : this ∈ σ.1) (hK_this : σ.2.1 this = 11) (this_now : Nat) (hR_this_now : σ.2.2.1 352 this = some this_now) (hL_this_now : this_now ∈ σ.1) (hK_this_now : σ.2.1 this_now = 10) (this_now_land : Nat) (hR_this_now_land : σ.2.2.1 327 this_now = some this_now_land) (hL_this_now_land : this_now_land ∈ σ.1) (hK_this_now_land : σ.2.1 this_now_land = 2) : MetI l yX11_cell (wa yX11_cell cX11_cell 8 (some .int)) ({ frames := 2, cells := 0, slots := 0, locals := 51 }) [.ref this, .int a0, .int a1, .int a2, .int a3, .int a4, .int a5] D t σ (I, J, ri, rj, rq) sz 0 0 (fun (r : Int32) (u : pq_S × pq_M) => ∃ I' : Nat → Nat → Int32, ∃ ri' : Nat → Nat → Int32, u = (σ, I', J, ri', rj, rq) ∧ GX [1069, 1070, 1073, 1074, 1079, 65] tg σ I ri rj I' ri' rj rq ∧ ((((0 ≤ a0.toInt ∧ a0.toInt < (I 64 this_now_land).toInt) ∧ ((-500) ≤ a1.toInt ∧ a1.toInt ≤ 3000) ∧ (0 ≤ a2.toInt ∧ a2.toInt ≤ 31) ∧ (0 ≤ a3.toInt ∧ a3.toInt ≤ 31) ∧ (0 ≤ a4.toInt ∧ a4.toInt ≤ 500) ∧ (0 ≤ a5.toInt ∧ a5.toInt ≤ 400) ∧ (I 320 this_now).toInt ≤ 0 ∧ (I 65 this_now_land).toInt < 40) ∧ r.toInt = (I 65 this_now_land).toInt ∧ (I' 65 this_now_land).toInt = (I 65 this_now_land).toInt + 1) ∨ (¬ ((0 ≤ a0.toInt ∧ a0.toInt < (I 64 this_now_land).toInt) ∧ ((-500) ≤ a1.toInt ∧ a1.toInt ≤ 3000) ∧ (0 ≤ a2.toInt ∧ a2.toInt ≤ 31) ∧ (0 ≤ a3.toInt ∧ a3.toInt ≤ 31) ∧ (0 ≤ a4.toInt ∧ a4.toInt ≤ 500) ∧ (0 ≤ a5.toInt ∧ a5.toInt ≤ 400) ∧ (I 320 this_now).toInt ≤ 0 ∧ (I 65 this_now_land).toInt < 40) ∧ r.toInt = -1 ∧ (I' 65 this_now_land).toInt = (I 65 this_now_land).toInt)) ∧ (PU1 65 this_now_land I I') ∧ rg r (-1) 39) := by
  refine Met.ofW (cc := cX11_cell) (maxL := 8) (ret := (some .int)) (by decide) rfl ?_
  intro p e s m args below meth c s₁ B hml hv
  obtain ⟨rfl, hsz, hP, hK, hD0, hN⟩ := hv
  have hx := B.exec
  have hb := B.bytes
  have hr := B.returns
  have hts := atoms_spec (ws := (wa yX11_cell cX11_cell 8 (some .int))) B.pre
  have hown : s.vm.findClass RX11 = some m.cls := findClass_of_methodNamed B.named
  have hlocks := B.notSynchronized
  subst hsz
  have hD : va_D (pq_B t σ (I, J, ri, rj, rq) s.heap.size) (pq_P t σ (I, J, ri, rj, rq)) := hD0.self
  generalize hAe : pq_B t σ (I, J, ri, rj, rq) s.heap.size = A at hD ⊢
  have hA : ∀ q : Nat, s.heap.size ≤ q → A q := fun q h => by rw [← hAe]; exact Or.inr h
  have hS : va_S A s.heap s.heap [] := va_S.rf
  have hG : GX [1069, 1070, 1073, 1074, 1079, 65] tg σ I ri rj I ri rj rq := ⟨hG0, fun _ _ _ => rfl, fun _ _ _ _ _ => rfl, fun _ _ _ _ _ => rfl⟩
  have hl := lv_entry ([.ref this, .int a0, .int a1, .int a2, .int a3, .int a4, .int a5]) (n := 8) (Nat.le_of_ble_eq_true rfl)
  rw [lg_entry_eq]
  generalize (lg_sl ([.ref this, .int a0, .int a1, .int a2, .int a3, .int a4, .int a5]) ++ List.replicate (8 - (lg_sl ([.ref this, .int a0, .int a1, .int a2, .int a3, .int a4, .int a5])).length) Slot.unset).toArray = ls at hl ⊢
  have hl : lv_has ls 8 [(0, .ref this), (1, .int a0), (2, .int a1), (3, .int a2), (4, .int a3), (5, .int a4), (6, .int a5)] := hl
  refine q_gen (fun Q hQ => ?_)
  have go : ∀ (H : Heap) (locs : List Loc) (ls : Array Slot), va_P D vwCl (pq_P t σ (I, J, ri, rj, rq)) H → va_D A (pq_P t σ (I, J, ri, rj, rq)) → va_S A s.heap H locs → lv_has ls 8 [(0, .ref this), (1, .int a0), (2, .int a1), (3, .int a2), (4, .int a3), (5, .int a4), (6, .int a5)] → W p l e ({ frames := 2, cells := 0, slots := 0, locals := 51 } : Room) s m (List.toArray ([.ref this, .int a0, .int a1, .int a2, .int a3, .int a4, .int a5] : List Value)) below meth c H locs 0 0 Q (F0 m 0 ls []) := by
    intro H locs ls hP hD hS hl
    refine lv_aload_n hx hb dX11_cell_0 rfl (lv_at hl 0 rfl) ?_
    refine lv_iload_n hx hb dX11_cell_1 rfl (lv_at hl 1 rfl) ?_
    refine pk_i (va_runV (As := [.int a0]) (rest := []) ⟨hx, hb, hml, hown, hts⟩ (s_X11_isRing_w l D t σ I J ri rj rq H.size tg hSH hG.1 this a0 hL_this hK_this this_now hR_this_now hL_this_now hK_this_now this_now_land hR_this_now_land hL_this_now_land hK_this_now_land) (cwV 1 hts (tw_V tw_211 tw_212 tw_213 tw_2 tw_214) rfl rfl rfl cv_yX11_isRing_1 ⟨Nat.le_of_ble_eq_true rfl, Nat.le_of_ble_eq_true rfl⟩) ⟨pq_blind, pq_recv hK hP hL_this hK_this (by decide) rfl, pq_pre hK hN hP hD⟩ rfl rfl hl.1 rfl (lv_room (Nat.le_of_ble_eq_true rfl)) dX11_cell_2 ⟨Nat.le_of_ble_eq_true rfl, Nat.le_of_ble_eq_true rfl⟩) hD hS hA (fun x_1 σ1 μ1 H locs hw_2 hP hD hS => ?_)
    obtain ⟨hu_3, hr_5⟩ := hw_2
    obtain ⟨hu_3a, hu_3b⟩ := Prod.mk.inj hu_3
    rw [hu_3a, hu_3b] at hP hD
    have h_6 : rg x_1 0 1 := by rcases hr_5 with ⟨q, -⟩ | ⟨q, -⟩ <;> rw [q] <;> exact ⟨by decide, by decide⟩
    have uh_6 := h_6.1
    have vh_6 := h_6.2
    refine lv_if_eq (tgt := 70) hx hb dX11_cell_5 (by decide) (fun c_7 => ?_) (fun c_7 => ?_)
    · have f_8 := (hr_5.resolve_left (fun q => absurd (q.1.symm.trans c_7) (by decide))).2
      have tc_9 : (x_1).toInt = 0 := congrArg Int32.toInt c_7
      have h_10 : rg x_1 0 0 := rg_and h_6 (rg_of_eq c_7 (rg_k (0 : Int32) 0 rfl)) (by decide)
      have uh_10 := h_10.1
      have vh_10 := h_10.2
      refine lv_iconst (v := 0) hx hb dX11_cell_70 (by decide) ?_
      refine lv_istore (lv' := [(7, .int 0), (0, .ref this), (1, .int a0), (2, .int a1), (3, .int a2), (4, .int a3), (5, .int a4), (6, .int a5)]) hx hb dX11_cell_71 hl (by decide) rfl (fun ls hl => ?_)
      refine lv_iload hx hb dX11_cell_73 (lv_at hl 0 rfl) ?_
      refine lv_if_eq (tgt := 103) hx hb dX11_cell_75 (by decide) (fun c_11 => ?_) (fun c_11 => absurd c_11 (by decide))
      refine lv_iconst (v := (-1)) hx hb dX11_cell_103 (by decide) ?_
      subst hQ
      exact W.iret (v := (-1)) hx hb hr (fun t1 ht hW => ⟨⟨(-1), (σ, I, J, ri, rj, rq), rfl, ⟨I, ri, rfl, hG, (by have k0 : (-1 : Int32).toInt = -1 := rfl; omega), pu_rf, (rg_w (rg_k (-1 : Int32) (-1) rfl) (by decide))⟩, by rw [ht]; exact hP, va_K.moved hW.alike hK, hD⟩, hS.F ht⟩) hS.2.2 dX11_cell_104
    · obtain ⟨f_12, f_13⟩ := (hr_5.resolve_right (fun q => c_7 q.1)).2
      have tc_14 : (x_1).toInt ≠ 0 := fun q => c_7 (Int32.toInt_inj.mp q)
      have h_15 : rg x_1 1 1 := rg_ne c_7 h_6 0 rfl (by decide)
      have uh_15 := h_15.1
      have vh_15 := h_15.2
      refine lv_iload_n hx hb dX11_cell_8 rfl (lv_at hl 2 rfl) ?_
      refine lv_sipush (v := (-500)) hx hb dX11_cell_9 (by decide) ?_
      refine lv_sipush (v := 3000) hx hb dX11_cell_12 (by decide) ?_
      refine pk_i (va_runS (As := [.int a1, .int (-500), .int 3000]) (rest := []) ⟨hx, hb, hml, hown, hts⟩ (s_X11_between_v l D t σ I J ri rj rq H.size tg hSH hG.1 a1 (-500 : Int32) (3000 : Int32)) (va_cwS 3 hts (tw_S tw_215 tw_216 tw_2 tw_217) rfl rfl rfl cd_yX11_between_3 ⟨Nat.le_of_ble_eq_true rfl, Nat.le_of_ble_eq_true rfl⟩) ⟨pq_blind, pq_pre hK hN hP hD⟩ rfl rfl hl.1 rfl (lv_room (Nat.le_of_ble_eq_true rfl)) dX11_cell_15 ⟨Nat.le_of_ble_eq_true rfl, Nat.le_of_ble_eq_true rfl⟩) hD hS hA (fun x_16 σ1 μ1 H locs hw_17 hP hD hS => ?_)
      obtain ⟨hu_18, hr_20⟩ := hw_17
      obtain ⟨hu_18a, hu_18b⟩ := Prod.mk.inj hu_18
      rw [hu_18a, hu_18b] at hP hD
      have h_21 : rg x_16 0 1 := by rcases hr_20 with ⟨q, -⟩ | ⟨q, -⟩ <;> rw [q] <;> exact ⟨by decide, by decide⟩
      have uh_21 := h_21.1
      have vh_21 := h_21.2
      refine lv_if_eq (tgt := 70) hx hb dX11_cell_18 (by decide) (fun c_22 => ?_) (fun c_22 => ?_)
      · have f_23 := (hr_20.resolve_left (fun q => absurd (q.1.symm.trans c_22) (by decide))).2
        have zk_24 : (-500 : Int32).toInt = -500 := rfl
        have zk_25 : (3000 : Int32).toInt = 3000 := rfl
        have tc_26 : (x_16).toInt = 0 := congrArg Int32.toInt c_22
        have h_27 : rg x_16 0 0 := rg_and h_21 (rg_of_eq c_22 (rg_k (0 : Int32) 0 rfl)) (by decide)
        have uh_27 := h_27.1
        have vh_27 := h_27.2
        refine lv_iconst (v := 0) hx hb dX11_cell_70 (by decide) ?_
        refine lv_istore (lv' := [(7, .int 0), (0, .ref this), (1, .int a0), (2, .int a1), (3, .int a2), (4, .int a3), (5, .int a4), (6, .int a5)]) hx hb dX11_cell_71 hl (by decide) rfl (fun ls hl => ?_)
        refine lv_iload hx hb dX11_cell_73 (lv_at hl 0 rfl) ?_
        refine lv_if_eq (tgt := 103) hx hb dX11_cell_75 (by decide) (fun c_28 => ?_) (fun c_28 => absurd c_28 (by decide))
        refine lv_iconst (v := (-1)) hx hb dX11_cell_103 (by decide) ?_
        subst hQ
        exact W.iret (v := (-1)) hx hb hr (fun t1 ht hW => ⟨⟨(-1), (σ, I, J, ri, rj, rq), rfl, ⟨I, ri, rfl, hG, (by have k0 : (-1 : Int32).toInt = -1 := rfl; omega), pu_rf, (rg_w (rg_k (-1 : Int32) (-1) rfl) (by decide))⟩, by rw [ht]; exact hP, va_K.moved hW.alike hK, hD⟩, hS.F ht⟩) hS.2.2 dX11_cell_104
      · obtain ⟨f_29, f_30⟩ := (hr_20.resolve_right (fun q => c_22 q.1)).2
        have tc_31 : (-500) ≤ (a1).toInt := Int32.le_iff_toInt_le.mp f_29
        have h_32 : rg a1 (-500) 2147483647 := rg_le2 f_29 (rg_k (-500 : Int32) (-500) rfl) (rg_full _) (by decide)
        have uh_32 := h_32.1
        have vh_32 := h_32.2
        have tc_33 : (a1).toInt ≤ 3000 := Int32.le_iff_toInt_le.mp f_30
        have h_34 : rg a1 (-500) 3000 := rg_le1 f_30 h_32 (rg_k (3000 : Int32) 3000 rfl) (by decide)
        have uh_34 := h_34.1
        have vh_34 := h_34.2
        have tc_35 : (x_16).toInt ≠ 0 := fun q => c_22 (Int32.toInt_inj.mp q)
        have h_36 : rg x_16 1 1 := rg_ne c_22 h_21 0 rfl (by decide)
        have uh_36 := h_36.1
        have vh_36 := h_36.2
        refine lv_iload_n hx hb dX11_cell_21 rfl (lv_at hl 3 rfl) ?_
        refine lv_iconst (v := 0) hx hb dX11_cell_22 (by decide) ?_
        refine lv_bipush (v := 31) hx hb dX11_cell_23 (by decide) ?_
        refine pk_i (va_runS (As := [.int a2, .int 0, .int 31]) (rest := []) ⟨hx, hb, hml, hown, hts⟩ (s_X11_between_v l D t σ I J ri rj rq H.size tg hSH hG.1 a2 (0 : Int32) (31 : Int32)) (va_cwS 3 hts (tw_S tw_215 tw_216 tw_2 tw_217) rfl rfl rfl cd_yX11_between_3 ⟨Nat.le_of_ble_eq_true rfl, Nat.le_of_ble_eq_true rfl⟩) ⟨pq_blind, pq_pre hK hN hP hD⟩ rfl rfl hl.1 rfl (lv_room (Nat.le_of_ble_eq_true rfl)) dX11_cell_25 ⟨Nat.le_of_ble_eq_true rfl, Nat.le_of_ble_eq_true rfl⟩) hD hS hA (fun x_37 σ1 μ1 H locs hw_38 hP hD hS => ?_)
        obtain ⟨hu_39, hr_41⟩ := hw_38
        obtain ⟨hu_39a, hu_39b⟩ := Prod.mk.inj hu_39
        rw [hu_39a, hu_39b] at hP hD
        have h_42 : rg x_37 0 1 := by rcases hr_41 with ⟨q, -⟩ | ⟨q, -⟩ <;> rw [q] <;> exact ⟨by decide, by decide⟩
        have uh_42 := h_42.1
        have vh_42 := h_42.2
        refine lv_if_eq (tgt := 70) hx hb dX11_cell_28 (by decide) (fun c_43 => ?_) (fun c_43 => ?_)
        · have f_44 := (hr_41.resolve_left (fun q => absurd (q.1.symm.trans c_43) (by decide))).2
          have zk_45 : (0 : Int32).toInt = 0 := rfl
          have zk_46 : (31 : Int32).toInt = 31 := rfl
          have tc_47 : (x_37).toInt = 0 := congrArg Int32.toInt c_43
          have h_48 : rg x_37 0 0 := rg_and h_42 (rg_of_eq c_43 (rg_k (0 : Int32) 0 rfl)) (by decide)
          have uh_48 := h_48.1
          have vh_48 := h_48.2
          refine lv_iconst (v := 0) hx hb dX11_cell_70 (by decide) ?_
          refine lv_istore (lv' := [(7, .int 0), (0, .ref this), (1, .int a0), (2, .int a1), (3, .int a2), (4, .int a3), (5, .int a4), (6, .int a5)]) hx hb dX11_cell_71 hl (by decide) rfl (fun ls hl => ?_)
          refine lv_iload hx hb dX11_cell_73 (lv_at hl 0 rfl) ?_
          refine lv_if_eq (tgt := 103) hx hb dX11_cell_75 (by decide) (fun c_49 => ?_) (fun c_49 => absurd c_49 (by decide))
          refine lv_iconst (v := (-1)) hx hb dX11_cell_103 (by decide) ?_
          subst hQ
          exact W.iret (v := (-1)) hx hb hr (fun t1 ht hW => ⟨⟨(-1), (σ, I, J, ri, rj, rq), rfl, ⟨I, ri, rfl, hG, (by have k0 : (-1 : Int32).toInt = -1 := rfl; omega), pu_rf, (rg_w (rg_k (-1 : Int32) (-1) rfl) (by decide))⟩, by rw [ht]; exact hP, va_K.moved hW.alike hK, hD⟩, hS.F ht⟩) hS.2.2 dX11_cell_104
        · obtain ⟨f_50, f_51⟩ := (hr_41.resolve_right (fun q => c_43 q.1)).2
          have tc_52 : 0 ≤ (a2).toInt := Int32.le_iff_toInt_le.mp f_50
          have h_53 : rg a2 0 2147483647 := rg_le2 f_50 (rg_k (0 : Int32) 0 rfl) (rg_full _) (by decide)
          have uh_53 := h_53.1
          have vh_53 := h_53.2
          have tc_54 : (a2).toInt ≤ 31 := Int32.le_iff_toInt_le.mp f_51
          have h_55 : rg a2 0 31 := rg_le1 f_51 h_53 (rg_k (31 : Int32) 31 rfl) (by decide)
          have uh_55 := h_55.1
          have vh_55 := h_55.2
          have tc_56 : (x_37).toInt ≠ 0 := fun q => c_43 (Int32.toInt_inj.mp q)
          have h_57 : rg x_37 1 1 := rg_ne c_43 h_42 0 rfl (by decide)
          have uh_57 := h_57.1
          have vh_57 := h_57.2
          refine lv_iload hx hb dX11_cell_31 (lv_at hl 4 rfl) ?_
          refine lv_iconst (v := 0) hx hb dX11_cell_33 (by decide) ?_
          refine lv_bipush (v := 31) hx hb dX11_cell_34 (by decide) ?_
          refine pk_i (va_runS (As := [.int a3, .int 0, .int 31]) (rest := []) ⟨hx, hb, hml, hown, hts⟩ (s_X11_between_v l D t σ I J ri rj rq H.size tg hSH hG.1 a3 (0 : Int32) (31 : Int32)) (va_cwS 3 hts (tw_S tw_215 tw_216 tw_2 tw_217) rfl rfl rfl cd_yX11_between_3 ⟨Nat.le_of_ble_eq_true rfl, Nat.le_of_ble_eq_true rfl⟩) ⟨pq_blind, pq_pre hK hN hP hD⟩ rfl rfl hl.1 rfl (lv_room (Nat.le_of_ble_eq_true rfl)) dX11_cell_36 ⟨Nat.le_of_ble_eq_true rfl, Nat.le_of_ble_eq_true rfl⟩) hD hS hA (fun x_58 σ1 μ1 H locs hw_59 hP hD hS => ?_)
          obtain ⟨hu_60, hr_62⟩ := hw_59
          obtain ⟨hu_60a, hu_60b⟩ := Prod.mk.inj hu_60
          rw [hu_60a, hu_60b] at hP hD
          have h_63 : rg x_58 0 1 := by rcases hr_62 with ⟨q, -⟩ | ⟨q, -⟩ <;> rw [q] <;> exact ⟨by decide, by decide⟩
          have uh_63 := h_63.1
          have vh_63 := h_63.2
          refine lv_if_eq (tgt := 70) hx hb dX11_cell_39 (by decide) (fun c_64 => ?_) (fun c_64 => ?_)
          · have f_65 := (hr_62.resolve_left (fun q => absurd (q.1.symm.trans c_64) (by decide))).2
            have zk_66 : (0 : Int32).toInt = 0 := rfl
            have zk_67 : (31 : Int32).toInt = 31 := rfl
            have tc_68 : (x_58).toInt = 0 := congrArg Int32.toInt c_64
            have h_69 : rg x_58 0 0 := rg_and h_63 (rg_of_eq c_64 (rg_k (0 : Int32) 0 rfl)) (by decide)
            have uh_69 := h_69.1
            have vh_69 := h_69.2
            refine lv_iconst (v := 0) hx hb dX11_cell_70 (by decide) ?_
            refine lv_istore (lv' := [(7, .int 0), (0, .ref this), (1, .int a0), (2, .int a1), (3, .int a2), (4, .int a3), (5, .int a4), (6, .int a5)]) hx hb dX11_cell_71 hl (by decide) rfl (fun ls hl => ?_)
            refine lv_iload hx hb dX11_cell_73 (lv_at hl 0 rfl) ?_
            refine lv_if_eq (tgt := 103) hx hb dX11_cell_75 (by decide) (fun c_70 => ?_) (fun c_70 => absurd c_70 (by decide))
            refine lv_iconst (v := (-1)) hx hb dX11_cell_103 (by decide) ?_
            subst hQ
            exact W.iret (v := (-1)) hx hb hr (fun t1 ht hW => ⟨⟨(-1), (σ, I, J, ri, rj, rq), rfl, ⟨I, ri, rfl, hG, (by have k0 : (-1 : Int32).toInt = -1 := rfl; omega), pu_rf, (rg_w (rg_k (-1 : Int32) (-1) rfl) (by decide))⟩, by rw [ht]; exact hP, va_K.moved hW.alike hK, hD⟩, hS.F ht⟩) hS.2.2 dX11_cell_104
          · obtain ⟨f_71, f_72⟩ := (hr_62.resolve_right (fun q => c_64 q.1)).2
            have tc_73 : 0 ≤ (a3).toInt := Int32.le_iff_toInt_le.mp f_71
            have h_74 : rg a3 0 2147483647 := rg_le2 f_71 (rg_k (0 : Int32) 0 rfl) (rg_full _) (by decide)
            have uh_74 := h_74.1
            have vh_74 := h_74.2
            have tc_75 : (a3).toInt ≤ 31 := Int32.le_iff_toInt_le.mp f_72
            have h_76 : rg a3 0 31 := rg_le1 f_72 h_74 (rg_k (31 : Int32) 31 rfl) (by decide)
            have uh_76 := h_76.1
            have vh_76 := h_76.2
            have tc_77 : (x_58).toInt ≠ 0 := fun q => c_64 (Int32.toInt_inj.mp q)
            have h_78 : rg x_58 1 1 := rg_ne c_64 h_63 0 rfl (by decide)
            have uh_78 := h_78.1
            have vh_78 := h_78.2
            refine lv_iload hx hb dX11_cell_42 (lv_at hl 5 rfl) ?_
            refine lv_iconst (v := 0) hx hb dX11_cell_44 (by decide) ?_
            refine lv_sipush (v := 500) hx hb dX11_cell_45 (by decide) ?_
            refine pk_i (va_runS (As := [.int a4, .int 0, .int 500]) (rest := []) ⟨hx, hb, hml, hown, hts⟩ (s_X11_between_v l D t σ I J ri rj rq H.size tg hSH hG.1 a4 (0 : Int32) (500 : Int32)) (va_cwS 3 hts (tw_S tw_215 tw_216 tw_2 tw_217) rfl rfl rfl cd_yX11_between_3 ⟨Nat.le_of_ble_eq_true rfl, Nat.le_of_ble_eq_true rfl⟩) ⟨pq_blind, pq_pre hK hN hP hD⟩ rfl rfl hl.1 rfl (lv_room (Nat.le_of_ble_eq_true rfl)) dX11_cell_48 ⟨Nat.le_of_ble_eq_true rfl, Nat.le_of_ble_eq_true rfl⟩) hD hS hA (fun x_79 σ1 μ1 H locs hw_80 hP hD hS => ?_)
            obtain ⟨hu_81, hr_83⟩ := hw_80
            obtain ⟨hu_81a, hu_81b⟩ := Prod.mk.inj hu_81
            rw [hu_81a, hu_81b] at hP hD
            have h_84 : rg x_79 0 1 := by rcases hr_83 with ⟨q, -⟩ | ⟨q, -⟩ <;> rw [q] <;> exact ⟨by decide, by decide⟩
            have uh_84 := h_84.1
            have vh_84 := h_84.2
            refine lv_if_eq (tgt := 70) hx hb dX11_cell_51 (by decide) (fun c_85 => ?_) (fun c_85 => ?_)
            · have f_86 := (hr_83.resolve_left (fun q => absurd (q.1.symm.trans c_85) (by decide))).2
              have zk_87 : (0 : Int32).toInt = 0 := rfl
              have zk_88 : (500 : Int32).toInt = 500 := rfl
              have tc_89 : (x_79).toInt = 0 := congrArg Int32.toInt c_85
              have h_90 : rg x_79 0 0 := rg_and h_84 (rg_of_eq c_85 (rg_k (0 : Int32) 0 rfl)) (by decide)
              have uh_90 := h_90.1
              have vh_90 := h_90.2
              refine lv_iconst (v := 0) hx hb dX11_cell_70 (by decide) ?_
              refine lv_istore (lv' := [(7, .int 0), (0, .ref this), (1, .int a0), (2, .int a1), (3, .int a2), (4, .int a3), (5, .int a4), (6, .int a5)]) hx hb dX11_cell_71 hl (by decide) rfl (fun ls hl => ?_)
              refine lv_iload hx hb dX11_cell_73 (lv_at hl 0 rfl) ?_
              refine lv_if_eq (tgt := 103) hx hb dX11_cell_75 (by decide) (fun c_91 => ?_) (fun c_91 => absurd c_91 (by decide))
              refine lv_iconst (v := (-1)) hx hb dX11_cell_103 (by decide) ?_
              subst hQ
              exact W.iret (v := (-1)) hx hb hr (fun t1 ht hW => ⟨⟨(-1), (σ, I, J, ri, rj, rq), rfl, ⟨I, ri, rfl, hG, (by have k0 : (-1 : Int32).toInt = -1 := rfl; omega), pu_rf, (rg_w (rg_k (-1 : Int32) (-1) rfl) (by decide))⟩, by rw [ht]; exact hP, va_K.moved hW.alike hK, hD⟩, hS.F ht⟩) hS.2.2 dX11_cell_104
            · obtain ⟨f_92, f_93⟩ := (hr_83.resolve_right (fun q => c_85 q.1)).2
              have tc_94 : 0 ≤ (a4).toInt := Int32.le_iff_toInt_le.mp f_92
              have h_95 : rg a4 0 2147483647 := rg_le2 f_92 (rg_k (0 : Int32) 0 rfl) (rg_full _) (by decide)
              have uh_95 := h_95.1
              have vh_95 := h_95.2
              have tc_96 : (a4).toInt ≤ 500 := Int32.le_iff_toInt_le.mp f_93
              have h_97 : rg a4 0 500 := rg_le1 f_93 h_95 (rg_k (500 : Int32) 500 rfl) (by decide)
              have uh_97 := h_97.1
              have vh_97 := h_97.2
              have tc_98 : (x_79).toInt ≠ 0 := fun q => c_85 (Int32.toInt_inj.mp q)
              have h_99 : rg x_79 1 1 := rg_ne c_85 h_84 0 rfl (by decide)
              have uh_99 := h_99.1
              have vh_99 := h_99.2
              refine lv_iload hx hb dX11_cell_54 (lv_at hl 6 rfl) ?_
              refine lv_iconst (v := 0) hx hb dX11_cell_56 (by decide) ?_
              refine lv_sipush (v := 400) hx hb dX11_cell_57 (by decide) ?_
              refine pk_i (va_runS (As := [.int a5, .int 0, .int 400]) (rest := []) ⟨hx, hb, hml, hown, hts⟩ (s_X11_between_v l D t σ I J ri rj rq H.size tg hSH hG.1 a5 (0 : Int32) (400 : Int32)) (va_cwS 3 hts (tw_S tw_215 tw_216 tw_2 tw_217) rfl rfl rfl cd_yX11_between_3 ⟨Nat.le_of_ble_eq_true rfl, Nat.le_of_ble_eq_true rfl⟩) ⟨pq_blind, pq_pre hK hN hP hD⟩ rfl rfl hl.1 rfl (lv_room (Nat.le_of_ble_eq_true rfl)) dX11_cell_60 ⟨Nat.le_of_ble_eq_true rfl, Nat.le_of_ble_eq_true rfl⟩) hD hS hA (fun x_100 σ1 μ1 H locs hw_101 hP hD hS => ?_)
              obtain ⟨hu_102, hr_104⟩ := hw_101
              obtain ⟨hu_102a, hu_102b⟩ := Prod.mk.inj hu_102
              rw [hu_102a, hu_102b] at hP hD
              have h_105 : rg x_100 0 1 := by rcases hr_104 with ⟨q, -⟩ | ⟨q, -⟩ <;> rw [q] <;> exact ⟨by decide, by decide⟩
              have uh_105 := h_105.1
              have vh_105 := h_105.2
              refine lv_if_eq (tgt := 70) hx hb dX11_cell_63 (by decide) (fun c_106 => ?_) (fun c_106 => ?_)
              · have f_107 := (hr_104.resolve_left (fun q => absurd (q.1.symm.trans c_106) (by decide))).2
                have zk_108 : (0 : Int32).toInt = 0 := rfl
                have zk_109 : (400 : Int32).toInt = 400 := rfl
                have tc_110 : (x_100).toInt = 0 := congrArg Int32.toInt c_106
                have h_111 : rg x_100 0 0 := rg_and h_105 (rg_of_eq c_106 (rg_k (0 : Int32) 0 rfl)) (by decide)
                have uh_111 := h_111.1
                have vh_111 := h_111.2
                refine lv_iconst (v := 0) hx hb dX11_cell_70 (by decide) ?_
                refine lv_istore (lv' := [(7, .int 0), (0, .ref this), (1, .int a0), (2, .int a1), (3, .int a2), (4, .int a3), (5, .int a4), (6, .int a5)]) hx hb dX11_cell_71 hl (by decide) rfl (fun ls hl => ?_)
                refine lv_iload hx hb dX11_cell_73 (lv_at hl 0 rfl) ?_
                refine lv_if_eq (tgt := 103) hx hb dX11_cell_75 (by decide) (fun c_112 => ?_) (fun c_112 => absurd c_112 (by decide))
                refine lv_iconst (v := (-1)) hx hb dX11_cell_103 (by decide) ?_
                subst hQ
                exact W.iret (v := (-1)) hx hb hr (fun t1 ht hW => ⟨⟨(-1), (σ, I, J, ri, rj, rq), rfl, ⟨I, ri, rfl, hG, (by have k0 : (-1 : Int32).toInt = -1 := rfl; omega), pu_rf, (rg_w (rg_k (-1 : Int32) (-1) rfl) (by decide))⟩, by rw [ht]; exact hP, va_K.moved hW.alike hK, hD⟩, hS.F ht⟩) hS.2.2 dX11_cell_104
              · obtain ⟨f_113, f_114⟩ := (hr_104.resolve_right (fun q => c_106 q.1)).2
                have tc_115 : 0 ≤ (a5).toInt := Int32.le_iff_toInt_le.mp f_113
                have h_116 : rg a5 0 2147483647 := rg_le2 f_113 (rg_k (0 : Int32) 0 rfl) (rg_full _) (by decide)
                have uh_116 := h_116.1
                have vh_116 := h_116.2
                have tc_117 : (a5).toInt ≤ 400 := Int32.le_iff_toInt_le.mp f_114
                have h_118 : rg a5 0 400 := rg_le1 f_114 h_116 (rg_k (400 : Int32) 400 rfl) (by decide)
                have uh_118 := h_118.1
                have vh_118 := h_118.2
                have tc_119 : (x_100).toInt ≠ 0 := fun q => c_106 (Int32.toInt_inj.mp q)
                have h_120 : rg x_100 1 1 := rg_ne c_106 h_105 0 rfl (by decide)
                have uh_120 := h_120.1
                have vh_120 := h_120.2
                refine lv_iconst (v := 1) hx hb dX11_cell_66 (by decide) ?_
                refine lv_goto (tgt := 71) hx hb dX11_cell_67 (by decide) ?_
                refine lv_istore (lv' := [(7, .int 1), (0, .ref this), (1, .int a0), (2, .int a1), (3, .int a2), (4, .int a3), (5, .int a4), (6, .int a5)]) hx hb dX11_cell_71 hl (by decide) rfl (fun ls hl => ?_)
                refine lv_iload hx hb dX11_cell_73 (lv_at hl 0 rfl) ?_
                refine lv_if_eq (tgt := 103) hx hb dX11_cell_75 (by decide) (fun c_121 => absurd c_121 (by decide)) (fun c_121 => ?_)
                refine lv_aload_n hx hb dX11_cell_78 rfl (lv_at hl 1 rfl) ?_
                refine pg_f (v := .ref this_now) (C := RX11) (T := TX11) (N := 5) hx hb hts (tw_i inlX11) hown hK hP hL_this hK_this (by decide) rfl 0 (by decide) (hts _ (tw_c tw_16)) (pq_hv rfl hR_this_now) dX11_cell_79 ?_
                refine pg_f (v := .int (I 320 this_now)) (C := RX10) (T := TX10) (N := 13) hx hb hts (tw_i inlX10) hown hK hP hL_this_now hK_this_now (by decide) rfl 0 (by decide) (hts _ (tw_c tw_209)) rfl dX11_cell_82 ?_
                have h_122 : rg (I 320 this_now) 0 600 := GX.rI hG 320 rfl
                have uh_122 := h_122.1
                have vh_122 := h_122.2
                refine lv_if_gt (tgt := 103) hx hb dX11_cell_85 (by decide) (fun c_123 => ?_) (fun c_123 => ?_)
                · have tc_124 : 0 < (I 320 this_now).toInt := Int32.lt_iff_toInt_lt.mp c_123
                  have h_125 : rg (I 320 this_now) 1 600 := rg_lt2 c_123 (rg_k (0 : Int32) 0 rfl) h_122 (by decide)
                  have uh_125 := h_125.1
                  have vh_125 := h_125.2
                  refine lv_iconst (v := (-1)) hx hb dX11_cell_103 (by decide) ?_
                  subst hQ
                  exact W.iret (v := (-1)) hx hb hr (fun t1 ht hW => ⟨⟨(-1), (σ, I, J, ri, rj, rq), rfl, ⟨I, ri, rfl, hG, (by have k0 : (-1 : Int32).toInt = -1 := rfl; omega), pu_rf, (rg_w (rg_k (-1 : Int32) (-1) rfl) (by decide))⟩, by rw [ht]; exact hP, va_K.moved hW.alike hK, hD⟩, hS.F ht⟩) hS.2.2 dX11_cell_104
                · have tc_126 : (I 320 this_now).toInt ≤ 0 := Int32.le_iff_toInt_le.mp (nlt c_123)
                  have h_127 : rg (I 320 this_now) 0 0 := rg_le1 (nlt c_123) h_122 (rg_k (0 : Int32) 0 rfl) (by decide)
                  have uh_127 := h_127.1
                  have vh_127 := h_127.2
                  refine lv_aload_n hx hb dX11_cell_88 rfl (lv_at hl 1 rfl) ?_
                  refine pg_f (v := .ref this_now) (C := RX11) (T := TX11) (N := 5) hx hb hts (tw_i inlX11) hown hK hP hL_this hK_this (by decide) rfl 0 (by decide) (hts _ (tw_c tw_16)) (pq_hv rfl hR_this_now) dX11_cell_89 ?_
                  refine pg_f (v := .ref this_now_land) (C := RX10) (T := TX10) (N := 13) hx hb hts (tw_i inlX10) hown hK hP hL_this_now hK_this_now (by decide) rfl 7 (by decide) (hts _ (tw_c tw_199)) (pq_hv rfl hR_this_now_land) dX11_cell_92 ?_
                  refine pg_f (v := .int (I 65 this_now_land)) (C := RX2) (T := TX2) (N := 20) hx hb hts (tw_i inlX2) hown hK hP hL_this_now_land hK_this_now_land (by decide) rfl 1 (by decide) (hts _ (tw_c tw_210)) rfl dX11_cell_95 ?_
                  have h_128 : rg (I 65 this_now_land) 0 40 := GX.rI hG 65 rfl
                  have uh_128 := h_128.1
                  have vh_128 := h_128.2
                  refine lv_bipush (v := 40) hx hb dX11_cell_98 (by decide) ?_
                  refine lv_icmp_lt (tgt := 105) hx hb dX11_cell_100 (by decide) (fun c_129 => ?_) (fun c_129 => ?_)
                  · have tc_130 : (I 65 this_now_land).toInt < 40 := Int32.lt_iff_toInt_lt.mp c_129
                    have h_131 : rg (I 65 this_now_land) 0 39 := rg_lt1 c_129 h_128 (rg_k (40 : Int32) 40 rfl) (by decide)
                    have uh_131 := h_131.1
                    have vh_131 := h_131.2
                    refine lv_aload_n hx hb dX11_cell_105 rfl (lv_at hl 1 rfl) ?_
                    refine pg_f (v := .ref this_now) (C := RX11) (T := TX11) (N := 5) hx hb hts (tw_i inlX11) hown hK hP hL_this hK_this (by decide) rfl 0 (by decide) (hts _ (tw_c tw_16)) (pq_hv rfl hR_this_now) dX11_cell_106 ?_
                    refine pg_f (v := .ref this_now_land) (C := RX10) (T := TX10) (N := 13) hx hb hts (tw_i inlX10) hown hK hP hL_this_now hK_this_now (by decide) rfl 7 (by decide) (hts _ (tw_c tw_199)) (pq_hv rfl hR_this_now_land) dX11_cell_109 ?_
                    refine lv_iload_n hx hb dX11_cell_112 rfl (lv_at hl 2 rfl) ?_
                    refine lv_iload_n hx hb dX11_cell_113 rfl (lv_at hl 3 rfl) ?_
                    refine lv_iload_n hx hb dX11_cell_114 rfl (lv_at hl 4 rfl) ?_
                    refine lv_iload hx hb dX11_cell_115 (lv_at hl 5 rfl) ?_
                    refine lv_iload hx hb dX11_cell_117 (lv_at hl 6 rfl) ?_
                    refine lv_iload hx hb dX11_cell_119 (lv_at hl 7 rfl) ?_
                    refine pk_i (va_runV (As := [.int a0, .int a1, .int a2, .int a3, .int a4, .int a5]) (rest := []) ⟨hx, hb, hml, hown, hts⟩ (s_X2_addCell_w l D t σ I J ri rj rq H.size tg hSH hG.1 this_now_land a0 a1 a2 a3 a4 a5 hL_this_now_land hK_this_now_land (rg_w f_12 (by decide)) (rg_w h_55 (by decide)) (rg_w h_76 (by decide))) (cwV 6 hts (tw_V tw_218 tw_219 tw_220 tw_41 tw_221) rfl rfl rfl cv_yX2_addCell_6 ⟨Nat.le_of_ble_eq_true rfl, Nat.le_of_ble_eq_true rfl⟩) ⟨pq_blind, pq_recv hK hP hL_this_now_land hK_this_now_land (by decide) rfl, pq_pre hK hN hP hD⟩ rfl rfl hl.1 rfl (lv_room (Nat.le_of_ble_eq_true rfl)) dX11_cell_121 ⟨Nat.le_of_ble_eq_true rfl, Nat.le_of_ble_eq_true rfl⟩) hD hS hA (fun x_132 σ1 μ1 H locs hw_133 hP hD hS => ?_)
                    obtain ⟨I_134, ri_135, hu_136, hg_137, hp_139, hp_140, hr_138⟩ := hw_133
                    obtain ⟨hu_136a, hu_136b⟩ := Prod.mk.inj hu_136
                    rw [hu_136a, hu_136b] at hP hD
                    have tt_141 := hp_139
                    have hG := GX.tr hG hg_137 (by decide)
                    subst hQ
                    exact W.iret (v := x_132) hx hb hr (fun t1 ht hW => ⟨⟨x_132, (σ, I_134, J, ri_135, rj, rq), rfl, ⟨I_134, ri_135, rfl, hG, (by have k0 : (-1 : Int32).toInt = -1 := rfl; omega), (pu_t pu_rf hp_140), (rg_w hr_138 (by decide))⟩, by rw [ht]; exact hP, va_K.moved hW.alike hK, hD⟩, hS.F ht⟩) hS.2.2 dX11_cell_124
                  · have tc_142 : 40 ≤ (I 65 this_now_land).toInt := Int32.le_iff_toInt_le.mp (nlt c_129)
                    have h_143 : rg (I 65 this_now_land) 40 40 := rg_le2 (nlt c_129) (rg_k (40 : Int32) 40 rfl) h_128 (by decide)
                    have uh_143 := h_143.1
                    have vh_143 := h_143.2
                    refine lv_iconst (v := (-1)) hx hb dX11_cell_103 (by decide) ?_
                    subst hQ
                    exact W.iret (v := (-1)) hx hb hr (fun t1 ht hW => ⟨⟨(-1), (σ, I, J, ri, rj, rq), rfl, ⟨I, ri, rfl, hG, (by have k0 : (-1 : Int32).toInt = -1 := rfl; omega), pu_rf, (rg_w (rg_k (-1 : Int32) (-1) rfl) (by decide))⟩, by rw [ht]; exact hP, va_K.moved hW.alike hK, hD⟩, hS.F ht⟩) hS.2.2 dX11_cell_104
  exact go _ _ _ hP hD hS hl

set_option maxHeartbeats 4000000 in
set_option maxRecDepth 100000 in
theorem s_X7_tell_w (l : Launch) (D : va_G) (t : pq_T) (σ : pq_S) (I : Nat → Nat → Int32) (J : Nat → Nat → Int64) (ri : Nat → Nat → Int32) (rj : Nat → Nat → Int64) (rq : Nat → Nat → Option Nat) (sz : Nat) (tg : Nat → Nat) (hSH : SH σ tg) (hG0 : GS tg σ I ri rq) (this : Nat) (a0 : Int32) (a1 : Int32) (a2 : Int32) (a3 : Int32) (hL_this : this ∈ σ.1) (hK_this : σ.2.1 this = 7) : MetI l yX7_tell (wa yX7_tell cX7_tell 5 (some .int)) ({ frames := 0, cells := 0, slots := 0, locals := 0 }) [.ref this, .int a0, .int a1, .int a2, .int a3] D t σ (I, J, ri, rj, rq) sz 0 0 (fun (r : Int32) (u : pq_S × pq_M) => ∃ I' : Nat → Nat → Int32, ∃ ri' : Nat → Nat → Int32, u = (σ, I', J, ri', rj, rq) ∧ GX [1225, 1226, 1227, 1228, 224] tg σ I ri rj I' ri' rj rq ∧ ((((I 224 this).toInt < 200) ∧ r.toInt = (I 224 this).toInt + 1 ∧ (I' 224 this).toInt = (I 224 this).toInt + 1) ∨ (¬ ((I 224 this).toInt < 200) ∧ r.toInt = -1 ∧ (I' 224 this).toInt = (I 224 this).toInt)) ∧ (PU1 224 this I I') ∧ rg r (-1) 200) := by
  refine Met.ofW (cc := cX7_tell) (maxL := 5) (ret := (some .int)) (by decide) rfl ?_
  intro p e s m args below meth c s₁ B hml hv
  obtain ⟨rfl, hsz, hP, hK, hD0, hN⟩ := hv
  have hx := B.exec
  have hb := B.bytes
  have hr := B.returns
  have hts := atoms_spec (ws := (wa yX7_tell cX7_tell 5 (some .int))) B.pre
  have hown : s.vm.findClass RX7 = some m.cls := findClass_of_methodNamed B.named
  have hlocks := B.notSynchronized
  subst hsz
  have hD : va_D (pq_B t σ (I, J, ri, rj, rq) s.heap.size) (pq_P t σ (I, J, ri, rj, rq)) := hD0.self
  generalize hAe : pq_B t σ (I, J, ri, rj, rq) s.heap.size = A at hD ⊢
  have hA : ∀ q : Nat, s.heap.size ≤ q → A q := fun q h => by rw [← hAe]; exact Or.inr h
  have hS : va_S A s.heap s.heap [] := va_S.rf
  have hG : GX [1225, 1226, 1227, 1228, 224] tg σ I ri rj I ri rj rq := ⟨hG0, fun _ _ _ => rfl, fun _ _ _ _ _ => rfl, fun _ _ _ _ _ => rfl⟩
  have hl := lv_entry ([.ref this, .int a0, .int a1, .int a2, .int a3]) (n := 5) (Nat.le_of_ble_eq_true rfl)
  rw [lg_entry_eq]
  generalize (lg_sl ([.ref this, .int a0, .int a1, .int a2, .int a3]) ++ List.replicate (5 - (lg_sl ([.ref this, .int a0, .int a1, .int a2, .int a3])).length) Slot.unset).toArray = ls at hl ⊢
  have hl : lv_has ls 5 [(0, .ref this), (1, .int a0), (2, .int a1), (3, .int a2), (4, .int a3)] := hl
  refine q_gen (fun Q hQ => ?_)
  have go : ∀ (H : Heap) (locs : List Loc) (ls : Array Slot), va_P D vwCl (pq_P t σ (I, J, ri, rj, rq)) H → va_D A (pq_P t σ (I, J, ri, rj, rq)) → va_S A s.heap H locs → lv_has ls 5 [(0, .ref this), (1, .int a0), (2, .int a1), (3, .int a2), (4, .int a3)] → W p l e ({ frames := 0, cells := 0, slots := 0, locals := 0 } : Room) s m (List.toArray ([.ref this, .int a0, .int a1, .int a2, .int a3] : List Value)) below meth c H locs 0 0 Q (F0 m 0 ls []) := by
    intro H locs ls hP hD hS hl
    refine lv_aload_n hx hb dX7_tell_0 rfl (lv_at hl 0 rfl) ?_
    refine pg_f (v := .int (I 224 this)) (C := RX7) (T := TX7) (N := 15) hx hb hts (tw_i inlX7) hown hK hP hL_this hK_this (by decide) rfl 0 (by decide) (hts _ (tw_c tw_254)) rfl dX7_tell_1 ?_
    have h_1 : rg (I 224 this) 0 200 := GX.rI hG 224 rfl
    have uh_1 := h_1.1
    have vh_1 := h_1.2
    refine lv_sipush (v := 200) hx hb dX7_tell_4 (by decide) ?_
    refine lv_icmp_lt (tgt := 12) hx hb dX7_tell_7 (by decide) (fun c_2 => ?_) (fun c_2 => ?_)
    · have tc_3 : (I 224 this).toInt < 200 := Int32.lt_iff_toInt_lt.mp c_2
      have h_4 : rg (I 224 this) 0 199 := rg_lt1 c_2 h_1 (rg_k (200 : Int32) 200 rfl) (by decide)
      have uh_4 := h_4.1
      have vh_4 := h_4.2
      refine lv_aload_n hx hb dX7_tell_12 rfl (lv_at hl 0 rfl) ?_
      obtain ⟨w_5, hR_w_5, hL_w_5, hK_w_5, hN_w_5, hT_w_5⟩ := sh_a hSH 225 (ci := 7) (kd := 13) (len := 200) rfl (by decide) hL_this hK_this
      refine pg_f (v := .ref w_5) (C := RX7) (T := TX7) (N := 15) hx hb hts (tw_i inlX7) hown hK hP hL_this hK_this (by decide) rfl 1 (by decide) (hts _ (tw_c tw_61)) (pq_hv rfl hR_w_5) dX7_tell_13 ?_
      refine lv_aload_n hx hb dX7_tell_16 rfl (lv_at hl 0 rfl) ?_
      refine pg_f (v := .int (I 224 this)) (C := RX7) (T := TX7) (N := 15) hx hb hts (tw_i inlX7) hown hK hP hL_this hK_this (by decide) rfl 0 (by decide) (hts _ (tw_c tw_254)) rfl dX7_tell_17 ?_
      refine lv_iload_n hx hb dX7_tell_20 rfl (lv_at hl 1 rfl) ?_
      refine pt_i hx hb hK hP hD hS hL_w_5 hK_w_5 hN_w_5 (rg_in h_4 (by decide)) dX7_tell_21 (fun r_6 H locs er_6 hP hD hS => ?_)
      have hG := GX.wR hG hSH hT_w_5 rfl er_6 (rg_w (rg_full _) (by decide)) (by decide)
      refine lv_aload_n hx hb dX7_tell_22 rfl (lv_at hl 0 rfl) ?_
      obtain ⟨w_7, hR_w_7, hL_w_7, hK_w_7, hN_w_7, hT_w_7⟩ := sh_a hSH 226 (ci := 7) (kd := 13) (len := 200) rfl (by decide) hL_this hK_this
      refine pg_f (v := .ref w_7) (C := RX7) (T := TX7) (N := 15) hx hb hts (tw_i inlX7) hown hK hP hL_this hK_this (by decide) rfl 2 (by decide) (hts _ (tw_c tw_62)) (pq_hv rfl hR_w_7) dX7_tell_23 ?_
      refine lv_aload_n hx hb dX7_tell_26 rfl (lv_at hl 0 rfl) ?_
      refine pg_f (v := .int (I 224 this)) (C := RX7) (T := TX7) (N := 15) hx hb hts (tw_i inlX7) hown hK hP hL_this hK_this (by decide) rfl 0 (by decide) (hts _ (tw_c tw_254)) rfl dX7_tell_27 ?_
      refine lv_iload_n hx hb dX7_tell_30 rfl (lv_at hl 2 rfl) ?_
      refine pt_i hx hb hK hP hD hS hL_w_7 hK_w_7 hN_w_7 (rg_in h_4 (by decide)) dX7_tell_31 (fun r_8 H locs er_8 hP hD hS => ?_)
      have hG := GX.wR hG hSH hT_w_7 rfl er_8 (rg_w (rg_full _) (by decide)) (by decide)
      refine lv_aload_n hx hb dX7_tell_32 rfl (lv_at hl 0 rfl) ?_
      obtain ⟨w_9, hR_w_9, hL_w_9, hK_w_9, hN_w_9, hT_w_9⟩ := sh_a hSH 227 (ci := 7) (kd := 13) (len := 200) rfl (by decide) hL_this hK_this
      refine pg_f (v := .ref w_9) (C := RX7) (T := TX7) (N := 15) hx hb hts (tw_i inlX7) hown hK hP hL_this hK_this (by decide) rfl 3 (by decide) (hts _ (tw_c tw_63)) (pq_hv rfl hR_w_9) dX7_tell_33 ?_
      refine lv_aload_n hx hb dX7_tell_36 rfl (lv_at hl 0 rfl) ?_
      refine pg_f (v := .int (I 224 this)) (C := RX7) (T := TX7) (N := 15) hx hb hts (tw_i inlX7) hown hK hP hL_this hK_this (by decide) rfl 0 (by decide) (hts _ (tw_c tw_254)) rfl dX7_tell_37 ?_
      refine lv_iload_n hx hb dX7_tell_40 rfl (lv_at hl 3 rfl) ?_
      refine pt_i hx hb hK hP hD hS hL_w_9 hK_w_9 hN_w_9 (rg_in h_4 (by decide)) dX7_tell_41 (fun r_10 H locs er_10 hP hD hS => ?_)
      have hG := GX.wR hG hSH hT_w_9 rfl er_10 (rg_w (rg_full _) (by decide)) (by decide)
      refine lv_aload_n hx hb dX7_tell_42 rfl (lv_at hl 0 rfl) ?_
      obtain ⟨w_11, hR_w_11, hL_w_11, hK_w_11, hN_w_11, hT_w_11⟩ := sh_a hSH 228 (ci := 7) (kd := 13) (len := 200) rfl (by decide) hL_this hK_this
      refine pg_f (v := .ref w_11) (C := RX7) (T := TX7) (N := 15) hx hb hts (tw_i inlX7) hown hK hP hL_this hK_this (by decide) rfl 4 (by decide) (hts _ (tw_c tw_64)) (pq_hv rfl hR_w_11) dX7_tell_43 ?_
      refine lv_aload_n hx hb dX7_tell_46 rfl (lv_at hl 0 rfl) ?_
      refine pg_f (v := .int (I 224 this)) (C := RX7) (T := TX7) (N := 15) hx hb hts (tw_i inlX7) hown hK hP hL_this hK_this (by decide) rfl 0 (by decide) (hts _ (tw_c tw_254)) rfl dX7_tell_47 ?_
      refine lv_iload hx hb dX7_tell_50 (lv_at hl 4 rfl) ?_
      refine pt_i hx hb hK hP hD hS hL_w_11 hK_w_11 hN_w_11 (rg_in h_4 (by decide)) dX7_tell_52 (fun r_12 H locs er_12 hP hD hS => ?_)
      have hG := GX.wR hG hSH hT_w_11 rfl er_12 (rg_w (rg_full _) (by decide)) (by decide)
      refine lv_aload_n hx hb dX7_tell_53 rfl (lv_at hl 0 rfl) ?_
      refine lv_dup hx hb dX7_tell_54 rfl ?_
      refine pg_f (v := .int (I 224 this)) (C := RX7) (T := TX7) (N := 15) hx hb hts (tw_i inlX7) hown hK hP hL_this hK_this (by decide) rfl 0 (by decide) (hts _ (tw_c tw_254)) rfl dX7_tell_55 ?_
      refine lv_iconst (v := 1) hx hb dX7_tell_58 (by decide) ?_
      refine lv_iadd hx hb dX7_tell_59 ?_
      refine lv_topi (fun x_13 ex_13 => ?_)
      have h_14 : rg x_13 1 200 := rg_of_eq ex_13 (rg_add h_4 (rg_k (1 : Int32) 1 rfl) (by decide))
      have uh_14 := h_14.1
      have vh_14 := h_14.2
      have tx_13 : (x_13).toInt = (I 224 this).toInt + 1 := by rw [ex_13]; exact i_add_rg (a2 := (I 224 this).toInt) (b2 := 1) rfl rfl h_4 (rg_k (1 : Int32) 1 rfl) (by decide)
      refine pp_i (v := x_13) (ty := .int) (C := RX7) (T := TX7) (N := 15) hx hb hts (tw_i inlX7) tyX7 tyX7_ok nmX7 hown hK hP hD hS hL_this hK_this (by decide) rfl 0 224 (by decide) (hts _ (tw_c tw_254)) rfl (tyX7_ok 0 (by decide)) rfl rfl (Nat.le_of_ble_eq_true rfl) (ps_224 _ _ _ _ _) dX7_tell_60 (fun I_15 H locs eI_15 hP hD hS => ?_)
      have hG := GX.wI hG 224 rfl eI_15 (rg_w h_14 (by decide)) (by decide)
      have tt_16 : (I_15 224 this).toInt = (x_13).toInt := by rw [eI_15, pq_us]
      refine lv_aload_n hx hb dX7_tell_63 rfl (lv_at hl 0 rfl) ?_
      refine pg_f (v := .int (I_15 224 this)) (C := RX7) (T := TX7) (N := 15) hx hb hts (tw_i inlX7) hown hK hP hL_this hK_this (by decide) rfl 0 (by decide) (hts _ (tw_c tw_254)) rfl dX7_tell_64 ?_
      have h_17 : rg (I_15 224 this) 1 200 := (by rw [eI_15, pq_us]; exact h_14)
      have uh_17 := h_17.1
      have vh_17 := h_17.2
      subst hQ
      exact W.iret (v := (I_15 224 this)) hx hb hr (fun t1 ht hW => ⟨⟨(I_15 224 this), (σ, I_15, J, r_12, rj, rq), rfl, ⟨I_15, r_12, rfl, hG, (by have k0 : (-1 : Int32).toInt = -1 := rfl; omega), (pu_t pu_rf (pu_p eI_15)), (rg_w h_17 (by decide))⟩, by rw [ht]; exact hP, va_K.moved hW.alike hK, hD⟩, hS.F ht⟩) hS.2.2 dX7_tell_67
    · have tc_18 : 200 ≤ (I 224 this).toInt := Int32.le_iff_toInt_le.mp (nlt c_2)
      have h_19 : rg (I 224 this) 200 200 := rg_le2 (nlt c_2) (rg_k (200 : Int32) 200 rfl) h_1 (by decide)
      have uh_19 := h_19.1
      have vh_19 := h_19.2
      refine lv_iconst (v := (-1)) hx hb dX7_tell_10 (by decide) ?_
      subst hQ
      exact W.iret (v := (-1)) hx hb hr (fun t1 ht hW => ⟨⟨(-1), (σ, I, J, ri, rj, rq), rfl, ⟨I, ri, rfl, hG, (by have k0 : (-1 : Int32).toInt = -1 := rfl; omega), pu_rf, (rg_w (rg_k (-1 : Int32) (-1) rfl) (by decide))⟩, by rw [ht]; exact hP, va_K.moved hW.alike hK, hD⟩, hS.F ht⟩) hS.2.2 dX7_tell_11
  exact go _ _ _ hP hD hS hl

set_option maxHeartbeats 4000000 in
set_option maxRecDepth 100000 in
theorem s_X11_level_w (l : Launch) (D : va_G) (t : pq_T) (σ : pq_S) (I : Nat → Nat → Int32) (J : Nat → Nat → Int64) (ri : Nat → Nat → Int32) (rj : Nat → Nat → Int64) (rq : Nat → Nat → Option Nat) (sz : Nat) (tg : Nat → Nat) (hSH : SH σ tg) (hG0 : GS tg σ I ri rq) (this : Nat) (a0 : Int32) (a1 : Int32) (a2 : Int32) (a3 : Int32) (hL_this : this ∈ σ.1) (hK_this : σ.2.1 this = 11) (h_a2 : rg a2 0 1) (this_now : Nat) (hR_this_now : σ.2.2.1 352 this = some this_now) (hL_this_now : this_now ∈ σ.1) (hK_this_now : σ.2.1 this_now = 10) (this_now_seas : Nat) (hR_this_now_seas : σ.2.2.1 326 this_now = some this_now_seas) (hL_this_now_seas : this_now_seas ∈ σ.1) (hK_this_now_seas : σ.2.1 this_now_seas = 7) : MetI l yX11_level (wa yX11_level cX11_level 5 (some .int)) ({ frames := 2, cells := 0, slots := 0, locals := 42 }) [.ref this, .int a0, .int a1, .int a2, .int a3] D t σ (I, J, ri, rj, rq) sz 0 0 (fun (r : Int32) (u : pq_S × pq_M) => ∃ I' : Nat → Nat → Int32, ∃ ri' : Nat → Nat → Int32, u = (σ, I', J, ri', rj, rq) ∧ GX [1225, 1226, 1227, 1228, 224] tg σ I ri rj I' ri' rj rq ∧ ((((0 ≤ a0.toInt ∧ a0.toInt ≤ 2) ∧ (0 ≤ a1.toInt ∧ a1.toInt ≤ 599) ∧ (a2.toInt = 0 ∨ ((-1000) ≤ a3.toInt ∧ a3.toInt ≤ 5000)) ∧ (I 224 this_now_seas).toInt < 200) ∧ r.toInt = (I 224 this_now_seas).toInt + 1 ∧ (I' 224 this_now_seas).toInt = (I 224 this_now_seas).toInt + 1) ∨ (¬ ((0 ≤ a0.toInt ∧ a0.toInt ≤ 2) ∧ (0 ≤ a1.toInt ∧ a1.toInt ≤ 599) ∧ (a2.toInt = 0 ∨ ((-1000) ≤ a3.toInt ∧ a3.toInt ≤ 5000)) ∧ (I 224 this_now_seas).toInt < 200) ∧ r.toInt = -1 ∧ (I' 224 this_now_seas).toInt = (I 224 this_now_seas).toInt)) ∧ (PU1 224 this_now_seas I I') ∧ rg r (-1) 200) := by
  refine Met.ofW (cc := cX11_level) (maxL := 5) (ret := (some .int)) (by decide) rfl ?_
  intro p e s m args below meth c s₁ B hml hv
  obtain ⟨rfl, hsz, hP, hK, hD0, hN⟩ := hv
  have hx := B.exec
  have hb := B.bytes
  have hr := B.returns
  have hts := atoms_spec (ws := (wa yX11_level cX11_level 5 (some .int))) B.pre
  have hown : s.vm.findClass RX11 = some m.cls := findClass_of_methodNamed B.named
  have hlocks := B.notSynchronized
  subst hsz
  have hD : va_D (pq_B t σ (I, J, ri, rj, rq) s.heap.size) (pq_P t σ (I, J, ri, rj, rq)) := hD0.self
  generalize hAe : pq_B t σ (I, J, ri, rj, rq) s.heap.size = A at hD ⊢
  have hA : ∀ q : Nat, s.heap.size ≤ q → A q := fun q h => by rw [← hAe]; exact Or.inr h
  have hS : va_S A s.heap s.heap [] := va_S.rf
  have hG : GX [1225, 1226, 1227, 1228, 224] tg σ I ri rj I ri rj rq := ⟨hG0, fun _ _ _ => rfl, fun _ _ _ _ _ => rfl, fun _ _ _ _ _ => rfl⟩
  have hl := lv_entry ([.ref this, .int a0, .int a1, .int a2, .int a3]) (n := 5) (Nat.le_of_ble_eq_true rfl)
  rw [lg_entry_eq]
  generalize (lg_sl ([.ref this, .int a0, .int a1, .int a2, .int a3]) ++ List.replicate (5 - (lg_sl ([.ref this, .int a0, .int a1, .int a2, .int a3])).length) Slot.unset).toArray = ls at hl ⊢
  have hl : lv_has ls 5 [(0, .ref this), (1, .int a0), (2, .int a1), (3, .int a2), (4, .int a3)] := hl
  refine q_gen (fun Q hQ => ?_)
  have go : ∀ (H : Heap) (locs : List Loc) (ls : Array Slot), va_P D vwCl (pq_P t σ (I, J, ri, rj, rq)) H → va_D A (pq_P t σ (I, J, ri, rj, rq)) → va_S A s.heap H locs → lv_has ls 5 [(0, .ref this), (1, .int a0), (2, .int a1), (3, .int a2), (4, .int a3)] → W p l e ({ frames := 2, cells := 0, slots := 0, locals := 42 } : Room) s m (List.toArray ([.ref this, .int a0, .int a1, .int a2, .int a3] : List Value)) below meth c H locs 0 0 Q (F0 m 0 ls []) := by
    intro H locs ls hP hD hS hl
    refine lv_iload_n hx hb dX11_level_0 rfl (lv_at hl 1 rfl) ?_
    refine pk_i (va_runS (As := [.int a0]) (rest := []) ⟨hx, hb, hml, hown, hts⟩ (s_X11_isRise_w l D t σ I J ri rj rq H.size tg hSH hG.1 a0) (va_cwS 1 hts (tw_S tw_244 tw_245 tw_2 tw_246) rfl rfl rfl cd_yX11_isRise_1 ⟨Nat.le_of_ble_eq_true rfl, Nat.le_of_ble_eq_true rfl⟩) ⟨pq_blind, pq_pre hK hN hP hD⟩ rfl rfl hl.1 rfl (lv_room (Nat.le_of_ble_eq_true rfl)) dX11_level_1 ⟨Nat.le_of_ble_eq_true rfl, Nat.le_of_ble_eq_true rfl⟩) hD hS hA (fun x_1 σ1 μ1 H locs hw_2 hP hD hS => ?_)
    obtain ⟨hu_3, hr_5⟩ := hw_2
    obtain ⟨hu_3a, hu_3b⟩ := Prod.mk.inj hu_3
    rw [hu_3a, hu_3b] at hP hD
    have h_6 : rg x_1 0 1 := by rcases hr_5 with ⟨q, -⟩ | ⟨q, -⟩ <;> rw [q] <;> exact ⟨by decide, by decide⟩
    have uh_6 := h_6.1
    have vh_6 := h_6.2
    refine lv_if_eq (tgt := 32) hx hb dX11_level_4 (by decide) (fun c_7 => ?_) (fun c_7 => ?_)
    · have f_8 := (hr_5.resolve_left (fun q => absurd (q.1.symm.trans c_7) (by decide))).2
      have tc_9 : (x_1).toInt = 0 := congrArg Int32.toInt c_7
      have h_10 : rg x_1 0 0 := rg_and h_6 (rg_of_eq c_7 (rg_k (0 : Int32) 0 rfl)) (by decide)
      have uh_10 := h_10.1
      have vh_10 := h_10.2
      refine lv_iconst (v := (-1)) hx hb dX11_level_32 (by decide) ?_
      subst hQ
      exact W.iret (v := (-1)) hx hb hr (fun t1 ht hW => ⟨⟨(-1), (σ, I, J, ri, rj, rq), rfl, ⟨I, ri, rfl, hG, (by have k0 : (-1 : Int32).toInt = -1 := rfl; omega), pu_rf, (rg_w (rg_k (-1 : Int32) (-1) rfl) (by decide))⟩, by rw [ht]; exact hP, va_K.moved hW.alike hK, hD⟩, hS.F ht⟩) hS.2.2 dX11_level_33
    · obtain ⟨f_11, f_12⟩ := (hr_5.resolve_right (fun q => c_7 q.1)).2
      have tc_13 : (x_1).toInt ≠ 0 := fun q => c_7 (Int32.toInt_inj.mp q)
      have h_14 : rg x_1 1 1 := rg_ne c_7 h_6 0 rfl (by decide)
      have uh_14 := h_14.1
      have vh_14 := h_14.2
      refine lv_iload_n hx hb dX11_level_7 rfl (lv_at hl 2 rfl) ?_
      refine pk_i (va_runS (As := [.int a1]) (rest := []) ⟨hx, hb, hml, hown, hts⟩ (s_X11_isMonth_w l D t σ I J ri rj rq H.size tg hSH hG.1 a1) (va_cwS 1 hts (tw_S tw_247 tw_248 tw_2 tw_249) rfl rfl rfl cd_yX11_isMonth_1 ⟨Nat.le_of_ble_eq_true rfl, Nat.le_of_ble_eq_true rfl⟩) ⟨pq_blind, pq_pre hK hN hP hD⟩ rfl rfl hl.1 rfl (lv_room (Nat.le_of_ble_eq_true rfl)) dX11_level_8 ⟨Nat.le_of_ble_eq_true rfl, Nat.le_of_ble_eq_true rfl⟩) hD hS hA (fun x_15 σ1 μ1 H locs hw_16 hP hD hS => ?_)
      obtain ⟨hu_17, hr_19⟩ := hw_16
      obtain ⟨hu_17a, hu_17b⟩ := Prod.mk.inj hu_17
      rw [hu_17a, hu_17b] at hP hD
      have h_20 : rg x_15 0 1 := by rcases hr_19 with ⟨q, -⟩ | ⟨q, -⟩ <;> rw [q] <;> exact ⟨by decide, by decide⟩
      have uh_20 := h_20.1
      have vh_20 := h_20.2
      refine lv_if_eq (tgt := 32) hx hb dX11_level_11 (by decide) (fun c_21 => ?_) (fun c_21 => ?_)
      · have f_22 := (hr_19.resolve_left (fun q => absurd (q.1.symm.trans c_21) (by decide))).2
        have tc_23 : (x_15).toInt = 0 := congrArg Int32.toInt c_21
        have h_24 : rg x_15 0 0 := rg_and h_20 (rg_of_eq c_21 (rg_k (0 : Int32) 0 rfl)) (by decide)
        have uh_24 := h_24.1
        have vh_24 := h_24.2
        refine lv_iconst (v := (-1)) hx hb dX11_level_32 (by decide) ?_
        subst hQ
        exact W.iret (v := (-1)) hx hb hr (fun t1 ht hW => ⟨⟨(-1), (σ, I, J, ri, rj, rq), rfl, ⟨I, ri, rfl, hG, (by have k0 : (-1 : Int32).toInt = -1 := rfl; omega), pu_rf, (rg_w (rg_k (-1 : Int32) (-1) rfl) (by decide))⟩, by rw [ht]; exact hP, va_K.moved hW.alike hK, hD⟩, hS.F ht⟩) hS.2.2 dX11_level_33
      · obtain ⟨f_25, f_26⟩ := (hr_19.resolve_right (fun q => c_21 q.1)).2
        have tc_27 : (x_15).toInt ≠ 0 := fun q => c_21 (Int32.toInt_inj.mp q)
        have h_28 : rg x_15 1 1 := rg_ne c_21 h_20 0 rfl (by decide)
        have uh_28 := h_28.1
        have vh_28 := h_28.2
        refine lv_iload_n hx hb dX11_level_14 rfl (lv_at hl 3 rfl) ?_
        refine lv_if_eq (tgt := 34) hx hb dX11_level_15 (by decide) (fun c_29 => ?_) (fun c_29 => ?_)
        · have tc_30 : (a2).toInt = 0 := congrArg Int32.toInt c_29
          have h_31 : rg a2 0 0 := rg_and h_a2 (rg_of_eq c_29 (rg_k (0 : Int32) 0 rfl)) (by decide)
          have uh_31 := h_31.1
          have vh_31 := h_31.2
          refine lv_aload_n hx hb dX11_level_34 rfl (lv_at hl 0 rfl) ?_
          refine pg_f (v := .ref this_now) (C := RX11) (T := TX11) (N := 5) hx hb hts (tw_i inlX11) hown hK hP hL_this hK_this (by decide) rfl 0 (by decide) (hts _ (tw_c tw_16)) (pq_hv rfl hR_this_now) dX11_level_35 ?_
          refine pg_f (v := .ref this_now_seas) (C := RX10) (T := TX10) (N := 13) hx hb hts (tw_i inlX10) hown hK hP hL_this_now hK_this_now (by decide) rfl 6 (by decide) (hts _ (tw_c tw_242)) (pq_hv rfl hR_this_now_seas) dX11_level_38 ?_
          refine pg_f (v := .int (I 224 this_now_seas)) (C := RX7) (T := TX7) (N := 15) hx hb hts (tw_i inlX7) hown hK hP hL_this_now_seas hK_this_now_seas (by decide) rfl 0 (by decide) (hts _ (tw_c tw_243)) rfl dX11_level_41 ?_
          have h_32 : rg (I 224 this_now_seas) 0 200 := GX.rI hG 224 rfl
          have uh_32 := h_32.1
          have vh_32 := h_32.2
          refine lv_sipush (v := 200) hx hb dX11_level_44 (by decide) ?_
          refine lv_icmp_lt (tgt := 52) hx hb dX11_level_47 (by decide) (fun c_33 => ?_) (fun c_33 => ?_)
          · have tc_34 : (I 224 this_now_seas).toInt < 200 := Int32.lt_iff_toInt_lt.mp c_33
            have h_35 : rg (I 224 this_now_seas) 0 199 := rg_lt1 c_33 h_32 (rg_k (200 : Int32) 200 rfl) (by decide)
            have uh_35 := h_35.1
            have vh_35 := h_35.2
            refine lv_aload_n hx hb dX11_level_52 rfl (lv_at hl 0 rfl) ?_
            refine pg_f (v := .ref this_now) (C := RX11) (T := TX11) (N := 5) hx hb hts (tw_i inlX11) hown hK hP hL_this hK_this (by decide) rfl 0 (by decide) (hts _ (tw_c tw_16)) (pq_hv rfl hR_this_now) dX11_level_53 ?_
            refine pg_f (v := .ref this_now_seas) (C := RX10) (T := TX10) (N := 13) hx hb hts (tw_i inlX10) hown hK hP hL_this_now hK_this_now (by decide) rfl 6 (by decide) (hts _ (tw_c tw_242)) (pq_hv rfl hR_this_now_seas) dX11_level_56 ?_
            refine lv_iload_n hx hb dX11_level_59 rfl (lv_at hl 1 rfl) ?_
            refine lv_iload_n hx hb dX11_level_60 rfl (lv_at hl 2 rfl) ?_
            refine lv_iload_n hx hb dX11_level_61 rfl (lv_at hl 3 rfl) ?_
            refine lv_if_eq (tgt := 70) hx hb dX11_level_62 (by decide) (fun c_36 => ?_) (fun c_36 => ?_)
            · have tc_37 : (a2).toInt = 0 := congrArg Int32.toInt c_36
              refine lv_sipush (v := (-5000)) hx hb dX11_level_70 (by decide) ?_
              refine lv_aload_n hx hb dX11_level_73 rfl (lv_at hl 0 rfl) ?_
              refine pg_f (v := .ref this_now) (C := RX11) (T := TX11) (N := 5) hx hb hts (tw_i inlX11) hown hK hP hL_this hK_this (by decide) rfl 0 (by decide) (hts _ (tw_c tw_16)) (pq_hv rfl hR_this_now) dX11_level_74 ?_
              refine pg_f (v := .int (I 320 this_now)) (C := RX10) (T := TX10) (N := 13) hx hb hts (tw_i inlX10) hown hK hP hL_this_now hK_this_now (by decide) rfl 0 (by decide) (hts _ (tw_c tw_209)) rfl dX11_level_77 ?_
              have h_38 : rg (I 320 this_now) 0 600 := GX.rI hG 320 rfl
              have uh_38 := h_38.1
              have vh_38 := h_38.2
              refine pk_i (va_runV (As := [.int a0, .int a1, .int (-5000), .int (I 320 this_now)]) (rest := []) ⟨hx, hb, hml, hown, hts⟩ (s_X7_tell_w l D t σ I J ri rj rq H.size tg hSH hG.1 this_now_seas a0 a1 (-5000 : Int32) (I 320 this_now) hL_this_now_seas hK_this_now_seas) (cwV 4 hts (tw_V tw_250 tw_251 tw_252 tw_37 tw_253) rfl rfl rfl cv_yX7_tell_4 ⟨Nat.le_of_ble_eq_true rfl, Nat.le_of_ble_eq_true rfl⟩) ⟨pq_blind, pq_recv hK hP hL_this_now_seas hK_this_now_seas (by decide) rfl, pq_pre hK hN hP hD⟩ rfl rfl hl.1 rfl (lv_room (Nat.le_of_ble_eq_true rfl)) dX11_level_80 ⟨Nat.le_of_ble_eq_true rfl, Nat.le_of_ble_eq_true rfl⟩) hD hS hA (fun x_39 σ1 μ1 H locs hw_40 hP hD hS => ?_)
              obtain ⟨I_41, ri_42, hu_43, hg_44, hp_46, hp_47, hr_45⟩ := hw_40
              obtain ⟨hu_43a, hu_43b⟩ := Prod.mk.inj hu_43
              rw [hu_43a, hu_43b] at hP hD
              have tt_48 := hp_46
              have hG := GX.tr hG hg_44 (by decide)
              subst hQ
              exact W.iret (v := x_39) hx hb hr (fun t1 ht hW => ⟨⟨x_39, (σ, I_41, J, ri_42, rj, rq), rfl, ⟨I_41, ri_42, rfl, hG, (by have k0 : (-1 : Int32).toInt = -1 := rfl; omega), (pu_t pu_rf hp_47), (rg_w hr_45 (by decide))⟩, by rw [ht]; exact hP, va_K.moved hW.alike hK, hD⟩, hS.F ht⟩) hS.2.2 dX11_level_83
            · have tc_49 : (a2).toInt ≠ 0 := fun q => c_36 (Int32.toInt_inj.mp q)
              exact (rg_empty (rg_ne c_36 h_31 0 rfl (lo := 1) (hi := (-1)) (by decide)) (by decide)).elim
          · have tc_50 : 200 ≤ (I 224 this_now_seas).toInt := Int32.le_iff_toInt_le.mp (nlt c_33)
            have h_51 : rg (I 224 this_now_seas) 200 200 := rg_le2 (nlt c_33) (rg_k (200 : Int32) 200 rfl) h_32 (by decide)
            have uh_51 := h_51.1
            have vh_51 := h_51.2
            refine lv_iconst (v := (-1)) hx hb dX11_level_50 (by decide) ?_
            subst hQ
            exact W.iret (v := (-1)) hx hb hr (fun t1 ht hW => ⟨⟨(-1), (σ, I, J, ri, rj, rq), rfl, ⟨I, ri, rfl, hG, (by have k0 : (-1 : Int32).toInt = -1 := rfl; omega), pu_rf, (rg_w (rg_k (-1 : Int32) (-1) rfl) (by decide))⟩, by rw [ht]; exact hP, va_K.moved hW.alike hK, hD⟩, hS.F ht⟩) hS.2.2 dX11_level_51
        · have tc_52 : (a2).toInt ≠ 0 := fun q => c_29 (Int32.toInt_inj.mp q)
          have h_53 : rg a2 1 1 := rg_ne c_29 h_a2 0 rfl (by decide)
          have uh_53 := h_53.1
          have vh_53 := h_53.2
          refine lv_iload hx hb dX11_level_18 (lv_at hl 4 rfl) ?_
          refine lv_sipush (v := (-1000)) hx hb dX11_level_20 (by decide) ?_
          refine lv_sipush (v := 5000) hx hb dX11_level_23 (by decide) ?_
          refine pk_i (va_runS (As := [.int a3, .int (-1000), .int 5000]) (rest := []) ⟨hx, hb, hml, hown, hts⟩ (s_X11_between_v l D t σ I J ri rj rq H.size tg hSH hG.1 a3 (-1000 : Int32) (5000 : Int32)) (va_cwS 3 hts (tw_S tw_215 tw_216 tw_2 tw_217) rfl rfl rfl cd_yX11_between_3 ⟨Nat.le_of_ble_eq_true rfl, Nat.le_of_ble_eq_true rfl⟩) ⟨pq_blind, pq_pre hK hN hP hD⟩ rfl rfl hl.1 rfl (lv_room (Nat.le_of_ble_eq_true rfl)) dX11_level_26 ⟨Nat.le_of_ble_eq_true rfl, Nat.le_of_ble_eq_true rfl⟩) hD hS hA (fun x_54 σ1 μ1 H locs hw_55 hP hD hS => ?_)
          obtain ⟨hu_56, hr_58⟩ := hw_55
          obtain ⟨hu_56a, hu_56b⟩ := Prod.mk.inj hu_56
          rw [hu_56a, hu_56b] at hP hD
          have h_59 : rg x_54 0 1 := by rcases hr_58 with ⟨q, -⟩ | ⟨q, -⟩ <;> rw [q] <;> exact ⟨by decide, by decide⟩
          have uh_59 := h_59.1
          have vh_59 := h_59.2
          refine lv_if_ne (tgt := 34) hx hb dX11_level_29 (by decide) (fun c_60 => ?_) (fun c_60 => ?_)
          · obtain ⟨f_61, f_62⟩ := (hr_58.resolve_right (fun q => c_60 q.1)).2
            have tc_63 : (-1000) ≤ (a3).toInt := Int32.le_iff_toInt_le.mp f_61
            have h_64 : rg a3 (-1000) 2147483647 := rg_le2 f_61 (rg_k (-1000 : Int32) (-1000) rfl) (rg_full _) (by decide)
            have uh_64 := h_64.1
            have vh_64 := h_64.2
            have tc_65 : (a3).toInt ≤ 5000 := Int32.le_iff_toInt_le.mp f_62
            have h_66 : rg a3 (-1000) 5000 := rg_le1 f_62 h_64 (rg_k (5000 : Int32) 5000 rfl) (by decide)
            have uh_66 := h_66.1
            have vh_66 := h_66.2
            have tc_67 : (x_54).toInt ≠ 0 := fun q => c_60 (Int32.toInt_inj.mp q)
            have h_68 : rg x_54 1 1 := rg_ne c_60 h_59 0 rfl (by decide)
            have uh_68 := h_68.1
            have vh_68 := h_68.2
            refine lv_aload_n hx hb dX11_level_34 rfl (lv_at hl 0 rfl) ?_
            refine pg_f (v := .ref this_now) (C := RX11) (T := TX11) (N := 5) hx hb hts (tw_i inlX11) hown hK hP hL_this hK_this (by decide) rfl 0 (by decide) (hts _ (tw_c tw_16)) (pq_hv rfl hR_this_now) dX11_level_35 ?_
            refine pg_f (v := .ref this_now_seas) (C := RX10) (T := TX10) (N := 13) hx hb hts (tw_i inlX10) hown hK hP hL_this_now hK_this_now (by decide) rfl 6 (by decide) (hts _ (tw_c tw_242)) (pq_hv rfl hR_this_now_seas) dX11_level_38 ?_
            refine pg_f (v := .int (I 224 this_now_seas)) (C := RX7) (T := TX7) (N := 15) hx hb hts (tw_i inlX7) hown hK hP hL_this_now_seas hK_this_now_seas (by decide) rfl 0 (by decide) (hts _ (tw_c tw_243)) rfl dX11_level_41 ?_
            have h_69 : rg (I 224 this_now_seas) 0 200 := GX.rI hG 224 rfl
            have uh_69 := h_69.1
            have vh_69 := h_69.2
            refine lv_sipush (v := 200) hx hb dX11_level_44 (by decide) ?_
            refine lv_icmp_lt (tgt := 52) hx hb dX11_level_47 (by decide) (fun c_70 => ?_) (fun c_70 => ?_)
            · have tc_71 : (I 224 this_now_seas).toInt < 200 := Int32.lt_iff_toInt_lt.mp c_70
              have h_72 : rg (I 224 this_now_seas) 0 199 := rg_lt1 c_70 h_69 (rg_k (200 : Int32) 200 rfl) (by decide)
              have uh_72 := h_72.1
              have vh_72 := h_72.2
              refine lv_aload_n hx hb dX11_level_52 rfl (lv_at hl 0 rfl) ?_
              refine pg_f (v := .ref this_now) (C := RX11) (T := TX11) (N := 5) hx hb hts (tw_i inlX11) hown hK hP hL_this hK_this (by decide) rfl 0 (by decide) (hts _ (tw_c tw_16)) (pq_hv rfl hR_this_now) dX11_level_53 ?_
              refine pg_f (v := .ref this_now_seas) (C := RX10) (T := TX10) (N := 13) hx hb hts (tw_i inlX10) hown hK hP hL_this_now hK_this_now (by decide) rfl 6 (by decide) (hts _ (tw_c tw_242)) (pq_hv rfl hR_this_now_seas) dX11_level_56 ?_
              refine lv_iload_n hx hb dX11_level_59 rfl (lv_at hl 1 rfl) ?_
              refine lv_iload_n hx hb dX11_level_60 rfl (lv_at hl 2 rfl) ?_
              refine lv_iload_n hx hb dX11_level_61 rfl (lv_at hl 3 rfl) ?_
              refine lv_if_eq (tgt := 70) hx hb dX11_level_62 (by decide) (fun c_73 => ?_) (fun c_73 => ?_)
              · have tc_74 : (a2).toInt = 0 := congrArg Int32.toInt c_73
                exact (rg_empty (rg_and h_53 (rg_of_eq c_73 (rg_k (0 : Int32) 0 rfl)) (lo := 1) (hi := 0) (by decide)) (by decide)).elim
              · have tc_75 : (a2).toInt ≠ 0 := fun q => c_73 (Int32.toInt_inj.mp q)
                refine lv_iload hx hb dX11_level_65 (lv_at hl 4 rfl) ?_
                refine lv_goto (tgt := 73) hx hb dX11_level_67 (by decide) ?_
                refine lv_aload_n hx hb dX11_level_73 rfl (lv_at hl 0 rfl) ?_
                refine pg_f (v := .ref this_now) (C := RX11) (T := TX11) (N := 5) hx hb hts (tw_i inlX11) hown hK hP hL_this hK_this (by decide) rfl 0 (by decide) (hts _ (tw_c tw_16)) (pq_hv rfl hR_this_now) dX11_level_74 ?_
                refine pg_f (v := .int (I 320 this_now)) (C := RX10) (T := TX10) (N := 13) hx hb hts (tw_i inlX10) hown hK hP hL_this_now hK_this_now (by decide) rfl 0 (by decide) (hts _ (tw_c tw_209)) rfl dX11_level_77 ?_
                have h_76 : rg (I 320 this_now) 0 600 := GX.rI hG 320 rfl
                have uh_76 := h_76.1
                have vh_76 := h_76.2
                refine pk_i (va_runV (As := [.int a0, .int a1, .int a3, .int (I 320 this_now)]) (rest := []) ⟨hx, hb, hml, hown, hts⟩ (s_X7_tell_w l D t σ I J ri rj rq H.size tg hSH hG.1 this_now_seas a0 a1 a3 (I 320 this_now) hL_this_now_seas hK_this_now_seas) (cwV 4 hts (tw_V tw_250 tw_251 tw_252 tw_37 tw_253) rfl rfl rfl cv_yX7_tell_4 ⟨Nat.le_of_ble_eq_true rfl, Nat.le_of_ble_eq_true rfl⟩) ⟨pq_blind, pq_recv hK hP hL_this_now_seas hK_this_now_seas (by decide) rfl, pq_pre hK hN hP hD⟩ rfl rfl hl.1 rfl (lv_room (Nat.le_of_ble_eq_true rfl)) dX11_level_80 ⟨Nat.le_of_ble_eq_true rfl, Nat.le_of_ble_eq_true rfl⟩) hD hS hA (fun x_77 σ1 μ1 H locs hw_78 hP hD hS => ?_)
                obtain ⟨I_79, ri_80, hu_81, hg_82, hp_84, hp_85, hr_83⟩ := hw_78
                obtain ⟨hu_81a, hu_81b⟩ := Prod.mk.inj hu_81
                rw [hu_81a, hu_81b] at hP hD
                have tt_86 := hp_84
                have hG := GX.tr hG hg_82 (by decide)
                subst hQ
                exact W.iret (v := x_77) hx hb hr (fun t1 ht hW => ⟨⟨x_77, (σ, I_79, J, ri_80, rj, rq), rfl, ⟨I_79, ri_80, rfl, hG, (by have k0 : (-1 : Int32).toInt = -1 := rfl; omega), (pu_t pu_rf hp_85), (rg_w hr_83 (by decide))⟩, by rw [ht]; exact hP, va_K.moved hW.alike hK, hD⟩, hS.F ht⟩) hS.2.2 dX11_level_83
            · have tc_87 : 200 ≤ (I 224 this_now_seas).toInt := Int32.le_iff_toInt_le.mp (nlt c_70)
              have h_88 : rg (I 224 this_now_seas) 200 200 := rg_le2 (nlt c_70) (rg_k (200 : Int32) 200 rfl) h_69 (by decide)
              have uh_88 := h_88.1
              have vh_88 := h_88.2
              refine lv_iconst (v := (-1)) hx hb dX11_level_50 (by decide) ?_
              subst hQ
              exact W.iret (v := (-1)) hx hb hr (fun t1 ht hW => ⟨⟨(-1), (σ, I, J, ri, rj, rq), rfl, ⟨I, ri, rfl, hG, (by have k0 : (-1 : Int32).toInt = -1 := rfl; omega), pu_rf, (rg_w (rg_k (-1 : Int32) (-1) rfl) (by decide))⟩, by rw [ht]; exact hP, va_K.moved hW.alike hK, hD⟩, hS.F ht⟩) hS.2.2 dX11_level_51
          · have f_89 := (hr_58.resolve_left (fun q => absurd (q.1.symm.trans c_60) (by decide))).2
            have zk_90 : (-1000 : Int32).toInt = -1000 := rfl
            have zk_91 : (5000 : Int32).toInt = 5000 := rfl
            have tc_92 : (x_54).toInt = 0 := congrArg Int32.toInt c_60
            have h_93 : rg x_54 0 0 := rg_and h_59 (rg_of_eq c_60 (rg_k (0 : Int32) 0 rfl)) (by decide)
            have uh_93 := h_93.1
            have vh_93 := h_93.2
            refine lv_iconst (v := (-1)) hx hb dX11_level_32 (by decide) ?_
            subst hQ
            exact W.iret (v := (-1)) hx hb hr (fun t1 ht hW => ⟨⟨(-1), (σ, I, J, ri, rj, rq), rfl, ⟨I, ri, rfl, hG, (by have k0 : (-1 : Int32).toInt = -1 := rfl; omega), pu_rf, (rg_w (rg_k (-1 : Int32) (-1) rfl) (by decide))⟩, by rw [ht]; exact hP, va_K.moved hW.alike hK, hD⟩, hS.F ht⟩) hS.2.2 dX11_level_33
  exact go _ _ _ hP hD hS hl

set_option maxHeartbeats 4000000 in
set_option maxRecDepth 100000 in
theorem s_X11_lot_w (l : Launch) (D : va_G) (t : pq_T) (σ : pq_S) (I : Nat → Nat → Int32) (J : Nat → Nat → Int64) (ri : Nat → Nat → Int32) (rj : Nat → Nat → Int64) (rq : Nat → Nat → Option Nat) (sz : Nat) (tg : Nat → Nat) (hSH : SH σ tg) (hG0 : GS tg σ I ri rq) (this : Nat) (a0 : Int32) (hL_this : this ∈ σ.1) (hK_this : σ.2.1 this = 11) (this_now : Nat) (hR_this_now : σ.2.2.1 352 this = some this_now) (hL_this_now : this_now ∈ σ.1) (hK_this_now : σ.2.1 this_now = 10) (this_now_folk : Nat) (hR_this_now_folk : σ.2.2.1 328 this_now = some this_now_folk) (hL_this_now_folk : this_now_folk ∈ σ.1) (hK_this_now_folk : σ.2.1 this_now_folk = 0) : MetI l yX11_lot (wa yX11_lot cX11_lot 3 (some .int)) ({ frames := 1, cells := 0, slots := 0, locals := 22 }) [.ref this, .int a0] D t σ (I, J, ri, rj, rq) sz 0 0 (fun (r : Int32) (u : pq_S × pq_M) => ∃ I' : Nat → Nat → Int32, ∃ ri' : Nat → Nat → Int32, u = (σ, I', J, ri', rj, rq) ∧ GX [10] tg σ I ri rj I' ri' rj rq ∧ ((((0 ≤ a0.toInt ∧ a0.toInt ≤ 60) ∧ (I 10 this_now_folk).toInt < 5) ∧ r.toInt = (I 10 this_now_folk).toInt ∧ (I' 10 this_now_folk).toInt = (I 10 this_now_folk).toInt + 1) ∨ (¬ ((0 ≤ a0.toInt ∧ a0.toInt ≤ 60) ∧ (I 10 this_now_folk).toInt < 5) ∧ r.toInt = -1 ∧ (I' 10 this_now_folk).toInt = (I 10 this_now_folk).toInt)) ∧ (PU1 10 this_now_folk I I') ∧ rg r (-1) 4) := by
  refine Met.ofW (cc := cX11_lot) (maxL := 3) (ret := (some .int)) (by decide) rfl ?_
  intro p e s m args below meth c s₁ B hml hv
  obtain ⟨rfl, hsz, hP, hK, hD0, hN⟩ := hv
  have hx := B.exec
  have hb := B.bytes
  have hr := B.returns
  have hts := atoms_spec (ws := (wa yX11_lot cX11_lot 3 (some .int))) B.pre
  have hown : s.vm.findClass RX11 = some m.cls := findClass_of_methodNamed B.named
  have hlocks := B.notSynchronized
  subst hsz
  have hD : va_D (pq_B t σ (I, J, ri, rj, rq) s.heap.size) (pq_P t σ (I, J, ri, rj, rq)) := hD0.self
  generalize hAe : pq_B t σ (I, J, ri, rj, rq) s.heap.size = A at hD ⊢
  have hA : ∀ q : Nat, s.heap.size ≤ q → A q := fun q h => by rw [← hAe]; exact Or.inr h
  have hS : va_S A s.heap s.heap [] := va_S.rf
  have hG : GX [10] tg σ I ri rj I ri rj rq := ⟨hG0, fun _ _ _ => rfl, fun _ _ _ _ _ => rfl, fun _ _ _ _ _ => rfl⟩
  have hl := lv_entry ([.ref this, .int a0]) (n := 3) (Nat.le_of_ble_eq_true rfl)
  rw [lg_entry_eq]
  generalize (lg_sl ([.ref this, .int a0]) ++ List.replicate (3 - (lg_sl ([.ref this, .int a0])).length) Slot.unset).toArray = ls at hl ⊢
  have hl : lv_has ls 3 [(0, .ref this), (1, .int a0)] := hl
  refine q_gen (fun Q hQ => ?_)
  have go : ∀ (H : Heap) (locs : List Loc) (ls : Array Slot), va_P D vwCl (pq_P t σ (I, J, ri, rj, rq)) H → va_D A (pq_P t σ (I, J, ri, rj, rq)) → va_S A s.heap H locs → lv_has ls 3 [(0, .ref this), (1, .int a0)] → W p l e ({ frames := 1, cells := 0, slots := 0, locals := 22 } : Room) s m (List.toArray ([.ref this, .int a0] : List Value)) below meth c H locs 0 0 Q (F0 m 0 ls []) := by
    intro H locs ls hP hD hS hl
    refine lv_aload_n hx hb dX11_lot_0 rfl (lv_at hl 0 rfl) ?_
    refine pg_f (v := .ref this_now) (C := RX11) (T := TX11) (N := 5) hx hb hts (tw_i inlX11) hown hK hP hL_this hK_this (by decide) rfl 0 (by decide) (hts _ (tw_c tw_16)) (pq_hv rfl hR_this_now) dX11_lot_1 ?_
    refine pg_f (v := .ref this_now_folk) (C := RX10) (T := TX10) (N := 13) hx hb hts (tw_i inlX10) hown hK hP hL_this_now hK_this_now (by decide) rfl 8 (by decide) (hts _ (tw_c tw_379)) (pq_hv rfl hR_this_now_folk) dX11_lot_4 ?_
    refine lv_astore_n (lv' := [(2, .ref this_now_folk), (0, .ref this), (1, .int a0)]) hx hb dX11_lot_7 rfl hl (by decide) rfl (fun ls hl => ?_)
    refine lv_iload_n hx hb dX11_lot_8 rfl (lv_at hl 2 rfl) ?_
    refine lv_iconst (v := 0) hx hb dX11_lot_9 (by decide) ?_
    refine lv_bipush (v := 60) hx hb dX11_lot_10 (by decide) ?_
    refine pk_i (va_runS (As := [.int a0, .int 0, .int 60]) (rest := []) ⟨hx, hb, hml, hown, hts⟩ (s_X11_between_v l D t σ I J ri rj rq H.size tg hSH hG.1 a0 (0 : Int32) (60 : Int32)) (va_cwS 3 hts (tw_S tw_215 tw_216 tw_2 tw_217) rfl rfl rfl cd_yX11_between_3 ⟨Nat.le_of_ble_eq_true rfl, Nat.le_of_ble_eq_true rfl⟩) ⟨pq_blind, pq_pre hK hN hP hD⟩ rfl rfl hl.1 rfl (lv_room (Nat.le_of_ble_eq_true rfl)) dX11_lot_12 ⟨Nat.le_of_ble_eq_true rfl, Nat.le_of_ble_eq_true rfl⟩) hD hS hA (fun x_1 σ1 μ1 H locs hw_2 hP hD hS => ?_)
    obtain ⟨hu_3, hr_5⟩ := hw_2
    obtain ⟨hu_3a, hu_3b⟩ := Prod.mk.inj hu_3
    rw [hu_3a, hu_3b] at hP hD
    have h_6 : rg x_1 0 1 := by rcases hr_5 with ⟨q, -⟩ | ⟨q, -⟩ <;> rw [q] <;> exact ⟨by decide, by decide⟩
    have uh_6 := h_6.1
    have vh_6 := h_6.2
    refine lv_if_eq (tgt := 26) hx hb dX11_lot_15 (by decide) (fun c_7 => ?_) (fun c_7 => ?_)
    · have f_8 := (hr_5.resolve_left (fun q => absurd (q.1.symm.trans c_7) (by decide))).2
      have zk_9 : (0 : Int32).toInt = 0 := rfl
      have zk_10 : (60 : Int32).toInt = 60 := rfl
      have tc_11 : (x_1).toInt = 0 := congrArg Int32.toInt c_7
      have h_12 : rg x_1 0 0 := rg_and h_6 (rg_of_eq c_7 (rg_k (0 : Int32) 0 rfl)) (by decide)
      have uh_12 := h_12.1
      have vh_12 := h_12.2
      refine lv_iconst (v := (-1)) hx hb dX11_lot_26 (by decide) ?_
      subst hQ
      exact W.iret (v := (-1)) hx hb hr (fun t1 ht hW => ⟨⟨(-1), (σ, I, J, ri, rj, rq), rfl, ⟨I, ri, rfl, hG, (by have k0 : (-1 : Int32).toInt = -1 := rfl; omega), pu_rf, (rg_w (rg_k (-1 : Int32) (-1) rfl) (by decide))⟩, by rw [ht]; exact hP, va_K.moved hW.alike hK, hD⟩, hS.F ht⟩) hS.2.2 dX11_lot_27
    · obtain ⟨f_13, f_14⟩ := (hr_5.resolve_right (fun q => c_7 q.1)).2
      have tc_15 : 0 ≤ (a0).toInt := Int32.le_iff_toInt_le.mp f_13
      have h_16 : rg a0 0 2147483647 := rg_le2 f_13 (rg_k (0 : Int32) 0 rfl) (rg_full _) (by decide)
      have uh_16 := h_16.1
      have vh_16 := h_16.2
      have tc_17 : (a0).toInt ≤ 60 := Int32.le_iff_toInt_le.mp f_14
      have h_18 : rg a0 0 60 := rg_le1 f_14 h_16 (rg_k (60 : Int32) 60 rfl) (by decide)
      have uh_18 := h_18.1
      have vh_18 := h_18.2
      have tc_19 : (x_1).toInt ≠ 0 := fun q => c_7 (Int32.toInt_inj.mp q)
      have h_20 : rg x_1 1 1 := rg_ne c_7 h_6 0 rfl (by decide)
      have uh_20 := h_20.1
      have vh_20 := h_20.2
      refine lv_aload_n hx hb dX11_lot_18 rfl (lv_at hl 0 rfl) ?_
      refine pg_f (v := .int (I 10 this_now_folk)) (C := RX0) (T := TX0) (N := 16) hx hb hts (tw_i inlX0) hown hK hP hL_this_now_folk hK_this_now_folk (by decide) rfl 10 (by decide) (hts _ (tw_c tw_380)) rfl dX11_lot_19 ?_
      have h_21 : rg (I 10 this_now_folk) 0 5 := GX.rI hG 10 rfl
      have uh_21 := h_21.1
      have vh_21 := h_21.2
      refine lv_iconst (v := 5) hx hb dX11_lot_22 (by decide) ?_
      refine lv_icmp_lt (tgt := 28) hx hb dX11_lot_23 (by decide) (fun c_22 => ?_) (fun c_22 => ?_)
      · have tc_23 : (I 10 this_now_folk).toInt < 5 := Int32.lt_iff_toInt_lt.mp c_22
        have h_24 : rg (I 10 this_now_folk) 0 4 := rg_lt1 c_22 h_21 (rg_k (5 : Int32) 5 rfl) (by decide)
        have uh_24 := h_24.1
        have vh_24 := h_24.2
        refine lv_aload_n hx hb dX11_lot_28 rfl (lv_at hl 0 rfl) ?_
        obtain ⟨w_25, hR_w_25, hL_w_25, hK_w_25, hN_w_25, hT_w_25⟩ := sh_a hSH 11 (ci := 0) (kd := 13) (len := 5) rfl (by decide) hL_this_now_folk hK_this_now_folk
        refine pg_f (v := .ref w_25) (C := RX0) (T := TX0) (N := 16) hx hb hts (tw_i inlX0) hown hK hP hL_this_now_folk hK_this_now_folk (by decide) rfl 11 (by decide) (hts _ (tw_c tw_381)) (pq_hv rfl hR_w_25) dX11_lot_29 ?_
        refine lv_aload_n hx hb dX11_lot_32 rfl (lv_at hl 0 rfl) ?_
        refine pg_f (v := .int (I 10 this_now_folk)) (C := RX0) (T := TX0) (N := 16) hx hb hts (tw_i inlX0) hown hK hP hL_this_now_folk hK_this_now_folk (by decide) rfl 10 (by decide) (hts _ (tw_c tw_380)) rfl dX11_lot_33 ?_
        refine lv_iload_n hx hb dX11_lot_36 rfl (lv_at hl 2 rfl) ?_
        refine pt_i hx hb hK hP hD hS hL_w_25 hK_w_25 hN_w_25 (rg_in h_24 (by decide)) dX11_lot_37 (fun r_26 H locs er_26 hP hD hS => ?_)
        have hG := GX.wR hG hSH hT_w_25 rfl er_26 (rg_w h_18 (by decide)) (by decide)
        refine lv_aload_n hx hb dX11_lot_38 rfl (lv_at hl 0 rfl) ?_
        refine lv_dup hx hb dX11_lot_39 rfl ?_
        refine pg_f (v := .int (I 10 this_now_folk)) (C := RX0) (T := TX0) (N := 16) hx hb hts (tw_i inlX0) hown hK hP hL_this_now_folk hK_this_now_folk (by decide) rfl 10 (by decide) (hts _ (tw_c tw_380)) rfl dX11_lot_40 ?_
        refine lv_iconst (v := 1) hx hb dX11_lot_43 (by decide) ?_
        refine lv_iadd hx hb dX11_lot_44 ?_
        refine lv_topi (fun x_27 ex_27 => ?_)
        have h_28 : rg x_27 1 5 := rg_of_eq ex_27 (rg_add h_24 (rg_k (1 : Int32) 1 rfl) (by decide))
        have uh_28 := h_28.1
        have vh_28 := h_28.2
        have tx_27 : (x_27).toInt = (I 10 this_now_folk).toInt + 1 := by rw [ex_27]; exact i_add_rg (a2 := (I 10 this_now_folk).toInt) (b2 := 1) rfl rfl h_24 (rg_k (1 : Int32) 1 rfl) (by decide)
        refine pp_i (v := x_27) (ty := .int) (C := RX0) (T := TX0) (N := 16) hx hb hts (tw_i inlX0) tyX0 tyX0_ok nmX0 hown hK hP hD hS hL_this_now_folk hK_this_now_folk (by decide) rfl 10 10 (by decide) (hts _ (tw_c tw_380)) rfl (tyX0_ok 10 (by decide)) rfl rfl (Nat.le_of_ble_eq_true rfl) (ps_10 _ _ _ _ _) dX11_lot_45 (fun I_29 H locs eI_29 hP hD hS => ?_)
        have hG := GX.wI hG 10 rfl eI_29 (rg_w h_28 (by decide)) (by decide)
        have tt_30 : (I_29 10 this_now_folk).toInt = (x_27).toInt := by rw [eI_29, pq_us]
        refine lv_aload_n hx hb dX11_lot_48 rfl (lv_at hl 0 rfl) ?_
        refine pg_f (v := .int (I_29 10 this_now_folk)) (C := RX0) (T := TX0) (N := 16) hx hb hts (tw_i inlX0) hown hK hP hL_this_now_folk hK_this_now_folk (by decide) rfl 10 (by decide) (hts _ (tw_c tw_380)) rfl dX11_lot_49 ?_
        have h_31 : rg (I_29 10 this_now_folk) 1 5 := (by rw [eI_29, pq_us]; exact h_28)
        have uh_31 := h_31.1
        have vh_31 := h_31.2
        refine lv_iconst (v := 1) hx hb dX11_lot_52 (by decide) ?_
        refine lv_isub hx hb dX11_lot_53 ?_
        refine lv_topi (fun x_32 ex_32 => ?_)
        have h_33 : rg x_32 0 4 := rg_of_eq ex_32 (rg_sub h_31 (rg_k (1 : Int32) 1 rfl) (by decide))
        have uh_33 := h_33.1
        have vh_33 := h_33.2
        have tx_32 : (x_32).toInt = (I_29 10 this_now_folk).toInt - 1 := by rw [ex_32]; exact i_sub_rg (a2 := (I_29 10 this_now_folk).toInt) (b2 := 1) rfl rfl h_31 (rg_k (1 : Int32) 1 rfl) (by decide)
        subst hQ
        exact W.iret (v := x_32) hx hb hr (fun t1 ht hW => ⟨⟨x_32, (σ, I_29, J, r_26, rj, rq), rfl, ⟨I_29, r_26, rfl, hG, (by have k0 : (-1 : Int32).toInt = -1 := rfl; omega), (pu_t pu_rf (pu_p eI_29)), (rg_w h_33 (by decide))⟩, by rw [ht]; exact hP, va_K.moved hW.alike hK, hD⟩, hS.F ht⟩) hS.2.2 dX11_lot_54
      · have tc_34 : 5 ≤ (I 10 this_now_folk).toInt := Int32.le_iff_toInt_le.mp (nlt c_22)
        have h_35 : rg (I 10 this_now_folk) 5 5 := rg_le2 (nlt c_22) (rg_k (5 : Int32) 5 rfl) h_21 (by decide)
        have uh_35 := h_35.1
        have vh_35 := h_35.2
        refine lv_iconst (v := (-1)) hx hb dX11_lot_26 (by decide) ?_
        subst hQ
        exact W.iret (v := (-1)) hx hb hr (fun t1 ht hW => ⟨⟨(-1), (σ, I, J, ri, rj, rq), rfl, ⟨I, ri, rfl, hG, (by have k0 : (-1 : Int32).toInt = -1 := rfl; omega), pu_rf, (rg_w (rg_k (-1 : Int32) (-1) rfl) (by decide))⟩, by rw [ht]; exact hP, va_K.moved hW.alike hK, hD⟩, hS.F ht⟩) hS.2.2 dX11_lot_27
  exact go _ _ _ hP hD hS hl

set_option maxHeartbeats 4000000 in
set_option maxRecDepth 100000 in
theorem s_X0_addPerson_w (l : Launch) (D : va_G) (t : pq_T) (σ : pq_S) (I : Nat → Nat → Int32) (J : Nat → Nat → Int64) (ri : Nat → Nat → Int32) (rj : Nat → Nat → Int64) (rq : Nat → Nat → Option Nat) (sz : Nat) (tg : Nat → Nat) (hSH : SH σ tg) (hG0 : GS tg σ I ri rq) (this : Nat) (a0 : Int32) (a1 : Int32) (a2 : Int32) (a3 : Int32) (a4 : Int32) (hL_this : this ∈ σ.1) (hK_this : σ.2.1 this = 0) (h_a0 : rg a0 0 9) (h_a3 : rg a3 0 4) : MetI l yX0_addPerson (wa yX0_addPerson cX0_addPerson 7 (some .int)) ({ frames := 0, cells := 0, slots := 0, locals := 0 }) [.ref this, .int a0, .int a1, .int a2, .int a3, .int a4] D t σ (I, J, ri, rj, rq) sz 0 0 (fun (r : Int32) (u : pq_S × pq_M) => ∃ I' : Nat → Nat → Int32, ∃ ri' : Nat → Nat → Int32, u = (σ, I', J, ri', rj, rq) ∧ GX [1005, 0] tg σ I ri rj I' ri' rj rq ∧ ((((I 0 this).toInt < 40) ∧ r.toInt = (I 0 this).toInt ∧ (I' 0 this).toInt = (I 0 this).toInt + 1) ∨ (¬ ((I 0 this).toInt < 40) ∧ r.toInt = -1 ∧ (I' 0 this).toInt = (I 0 this).toInt)) ∧ (PU1 0 this I I') ∧ rg r (-1) 39) := by
  refine Met.ofW (cc := cX0_addPerson) (maxL := 7) (ret := (some .int)) (by decide) rfl ?_
  intro p e s m args below meth c s₁ B hml hv
  obtain ⟨rfl, hsz, hP, hK, hD0, hN⟩ := hv
  have hx := B.exec
  have hb := B.bytes
  have hr := B.returns
  have hts := atoms_spec (ws := (wa yX0_addPerson cX0_addPerson 7 (some .int))) B.pre
  have hown : s.vm.findClass RX0 = some m.cls := findClass_of_methodNamed B.named
  have hlocks := B.notSynchronized
  subst hsz
  have hD : va_D (pq_B t σ (I, J, ri, rj, rq) s.heap.size) (pq_P t σ (I, J, ri, rj, rq)) := hD0.self
  generalize hAe : pq_B t σ (I, J, ri, rj, rq) s.heap.size = A at hD ⊢
  have hA : ∀ q : Nat, s.heap.size ≤ q → A q := fun q h => by rw [← hAe]; exact Or.inr h
  have hS : va_S A s.heap s.heap [] := va_S.rf
  have hG : GX [1005, 0] tg σ I ri rj I ri rj rq := ⟨hG0, fun _ _ _ => rfl, fun _ _ _ _ _ => rfl, fun _ _ _ _ _ => rfl⟩
  have hl := lv_entry ([.ref this, .int a0, .int a1, .int a2, .int a3, .int a4]) (n := 7) (Nat.le_of_ble_eq_true rfl)
  rw [lg_entry_eq]
  generalize (lg_sl ([.ref this, .int a0, .int a1, .int a2, .int a3, .int a4]) ++ List.replicate (7 - (lg_sl ([.ref this, .int a0, .int a1, .int a2, .int a3, .int a4])).length) Slot.unset).toArray = ls at hl ⊢
  have hl : lv_has ls 7 [(0, .ref this), (1, .int a0), (2, .int a1), (3, .int a2), (4, .int a3), (5, .int a4)] := hl
  refine q_gen (fun Q hQ => ?_)
  have go : ∀ (H : Heap) (locs : List Loc) (ls : Array Slot), va_P D vwCl (pq_P t σ (I, J, ri, rj, rq)) H → va_D A (pq_P t σ (I, J, ri, rj, rq)) → va_S A s.heap H locs → lv_has ls 7 [(0, .ref this), (1, .int a0), (2, .int a1), (3, .int a2), (4, .int a3), (5, .int a4)] → W p l e ({ frames := 0, cells := 0, slots := 0, locals := 0 } : Room) s m (List.toArray ([.ref this, .int a0, .int a1, .int a2, .int a3, .int a4] : List Value)) below meth c H locs 0 0 Q (F0 m 0 ls []) := by
    intro H locs ls hP hD hS hl
    refine lv_aload_n hx hb dX0_addPerson_0 rfl (lv_at hl 0 rfl) ?_
    refine pg_f (v := .int (I 0 this)) (C := RX0) (T := TX0) (N := 16) hx hb hts (tw_i inlX0) hown hK hP hL_this hK_this (by decide) rfl 0 (by decide) (hts _ (tw_c tw_395)) rfl dX0_addPerson_1 ?_
    have h_1 : rg (I 0 this) 0 40 := GX.rI hG 0 rfl
    have uh_1 := h_1.1
    have vh_1 := h_1.2
    refine lv_bipush (v := 40) hx hb dX0_addPerson_4 (by decide) ?_
    refine lv_icmp_lt (tgt := 11) hx hb dX0_addPerson_6 (by decide) (fun c_2 => ?_) (fun c_2 => ?_)
    · have tc_3 : (I 0 this).toInt < 40 := Int32.lt_iff_toInt_lt.mp c_2
      have h_4 : rg (I 0 this) 0 39 := rg_lt1 c_2 h_1 (rg_k (40 : Int32) 40 rfl) (by decide)
      have uh_4 := h_4.1
      have vh_4 := h_4.2
      refine lv_aload_n hx hb dX0_addPerson_11 rfl (lv_at hl 0 rfl) ?_
      refine pg_f (v := .int (I 0 this)) (C := RX0) (T := TX0) (N := 16) hx hb hts (tw_i inlX0) hown hK hP hL_this hK_this (by decide) rfl 0 (by decide) (hts _ (tw_c tw_395)) rfl dX0_addPerson_12 ?_
      refine lv_istore (lv' := [(6, .int (I 0 this)), (0, .ref this), (1, .int a0), (2, .int a1), (3, .int a2), (4, .int a3), (5, .int a4)]) hx hb dX0_addPerson_15 hl (by decide) rfl (fun ls hl => ?_)
      refine lv_aload_n hx hb dX0_addPerson_17 rfl (lv_at hl 1 rfl) ?_
      obtain ⟨w_5, hR_w_5, hL_w_5, hK_w_5, hN_w_5, hT_w_5⟩ := sh_a hSH 1 (ci := 0) (kd := 13) (len := 40) rfl (by decide) hL_this hK_this
      refine pg_f (v := .ref w_5) (C := RX0) (T := TX0) (N := 16) hx hb hts (tw_i inlX0) hown hK hP hL_this hK_this (by decide) rfl 1 (by decide) (hts _ (tw_c tw_110)) (pq_hv rfl hR_w_5) dX0_addPerson_18 ?_
      refine lv_iload hx hb dX0_addPerson_21 (lv_at hl 0 rfl) ?_
      refine lv_iload_n hx hb dX0_addPerson_23 rfl (lv_at hl 2 rfl) ?_
      refine pt_i hx hb hK hP hD hS hL_w_5 hK_w_5 hN_w_5 (rg_in h_4 (by decide)) dX0_addPerson_24 (fun r_6 H locs er_6 hP hD hS => ?_)
      have hG := GX.wR hG hSH hT_w_5 rfl er_6 (rg_w h_a0 (by decide)) (by decide)
      refine lv_aload_n hx hb dX0_addPerson_25 rfl (lv_at hl 1 rfl) ?_
      obtain ⟨w_7, hR_w_7, hL_w_7, hK_w_7, hN_w_7, hT_w_7⟩ := sh_a hSH 2 (ci := 0) (kd := 13) (len := 40) rfl (by decide) hL_this hK_this
      refine pg_f (v := .ref w_7) (C := RX0) (T := TX0) (N := 16) hx hb hts (tw_i inlX0) hown hK hP hL_this hK_this (by decide) rfl 2 (by decide) (hts _ (tw_c tw_111)) (pq_hv rfl hR_w_7) dX0_addPerson_26 ?_
      refine lv_iload hx hb dX0_addPerson_29 (lv_at hl 0 rfl) ?_
      refine lv_iload_n hx hb dX0_addPerson_31 rfl (lv_at hl 3 rfl) ?_
      refine pt_i hx hb hK hP hD hS hL_w_7 hK_w_7 hN_w_7 (rg_in h_4 (by decide)) dX0_addPerson_32 (fun r_8 H locs er_8 hP hD hS => ?_)
      have hG := GX.wR hG hSH hT_w_7 rfl er_8 (rg_w (rg_full _) (by decide)) (by decide)
      refine lv_aload_n hx hb dX0_addPerson_33 rfl (lv_at hl 1 rfl) ?_
      obtain ⟨w_9, hR_w_9, hL_w_9, hK_w_9, hN_w_9, hT_w_9⟩ := sh_a hSH 3 (ci := 0) (kd := 13) (len := 40) rfl (by decide) hL_this hK_this
      refine pg_f (v := .ref w_9) (C := RX0) (T := TX0) (N := 16) hx hb hts (tw_i inlX0) hown hK hP hL_this hK_this (by decide) rfl 3 (by decide) (hts _ (tw_c tw_112)) (pq_hv rfl hR_w_9) dX0_addPerson_34 ?_
      refine lv_iload hx hb dX0_addPerson_37 (lv_at hl 0 rfl) ?_
      refine lv_iload_n hx hb dX0_addPerson_39 rfl (lv_at hl 4 rfl) ?_
      refine pt_i hx hb hK hP hD hS hL_w_9 hK_w_9 hN_w_9 (rg_in h_4 (by decide)) dX0_addPerson_40 (fun r_10 H locs er_10 hP hD hS => ?_)
      have hG := GX.wR hG hSH hT_w_9 rfl er_10 (rg_w (rg_full _) (by decide)) (by decide)
      refine lv_aload_n hx hb dX0_addPerson_41 rfl (lv_at hl 1 rfl) ?_
      obtain ⟨w_11, hR_w_11, hL_w_11, hK_w_11, hN_w_11, hT_w_11⟩ := sh_a hSH 5 (ci := 0) (kd := 13) (len := 40) rfl (by decide) hL_this hK_this
      refine pg_f (v := .ref w_11) (C := RX0) (T := TX0) (N := 16) hx hb hts (tw_i inlX0) hown hK hP hL_this hK_this (by decide) rfl 5 (by decide) (hts _ (tw_c tw_114)) (pq_hv rfl hR_w_11) dX0_addPerson_42 ?_
      refine lv_iload hx hb dX0_addPerson_45 (lv_at hl 0 rfl) ?_
      refine lv_iload hx hb dX0_addPerson_47 (lv_at hl 5 rfl) ?_
      refine pt_i hx hb hK hP hD hS hL_w_11 hK_w_11 hN_w_11 (rg_in h_4 (by decide)) dX0_addPerson_49 (fun r_12 H locs er_12 hP hD hS => ?_)
      have hG := GX.wR hG hSH hT_w_11 rfl er_12 (rg_w h_a3 (by decide)) (by decide)
      refine lv_aload_n hx hb dX0_addPerson_50 rfl (lv_at hl 1 rfl) ?_
      obtain ⟨w_13, hR_w_13, hL_w_13, hK_w_13, hN_w_13, hT_w_13⟩ := sh_a hSH 4 (ci := 0) (kd := 13) (len := 40) rfl (by decide) hL_this hK_this
      refine pg_f (v := .ref w_13) (C := RX0) (T := TX0) (N := 16) hx hb hts (tw_i inlX0) hown hK hP hL_this hK_this (by decide) rfl 4 (by decide) (hts _ (tw_c tw_113)) (pq_hv rfl hR_w_13) dX0_addPerson_51 ?_
      refine lv_iload hx hb dX0_addPerson_54 (lv_at hl 0 rfl) ?_
      refine lv_iload hx hb dX0_addPerson_56 (lv_at hl 6 rfl) ?_
      refine pt_i hx hb hK hP hD hS hL_w_13 hK_w_13 hN_w_13 (rg_in h_4 (by decide)) dX0_addPerson_58 (fun r_14 H locs er_14 hP hD hS => ?_)
      have hG := GX.wR hG hSH hT_w_13 rfl er_14 (rg_w (rg_full _) (by decide)) (by decide)
      refine lv_aload_n hx hb dX0_addPerson_59 rfl (lv_at hl 1 rfl) ?_
      obtain ⟨w_15, hR_w_15, hL_w_15, hK_w_15, hN_w_15, hT_w_15⟩ := sh_a hSH 6 (ci := 0) (kd := 13) (len := 40) rfl (by decide) hL_this hK_this
      refine pg_f (v := .ref w_15) (C := RX0) (T := TX0) (N := 16) hx hb hts (tw_i inlX0) hown hK hP hL_this hK_this (by decide) rfl 6 (by decide) (hts _ (tw_c tw_115)) (pq_hv rfl hR_w_15) dX0_addPerson_60 ?_
      refine lv_iload hx hb dX0_addPerson_63 (lv_at hl 0 rfl) ?_
      refine lv_iconst (v := 0) hx hb dX0_addPerson_65 (by decide) ?_
      refine pt_i hx hb hK hP hD hS hL_w_15 hK_w_15 hN_w_15 (rg_in h_4 (by decide)) dX0_addPerson_66 (fun r_16 H locs er_16 hP hD hS => ?_)
      have hG := GX.wR hG hSH hT_w_15 rfl er_16 (rg_w (rg_k (0 : Int32) 0 rfl) (by decide)) (by decide)
      refine lv_aload_n hx hb dX0_addPerson_67 rfl (lv_at hl 1 rfl) ?_
      obtain ⟨w_17, hR_w_17, hL_w_17, hK_w_17, hN_w_17, hT_w_17⟩ := sh_a hSH 7 (ci := 0) (kd := 13) (len := 40) rfl (by decide) hL_this hK_this
      refine pg_f (v := .ref w_17) (C := RX0) (T := TX0) (N := 16) hx hb hts (tw_i inlX0) hown hK hP hL_this hK_this (by decide) rfl 7 (by decide) (hts _ (tw_c tw_116)) (pq_hv rfl hR_w_17) dX0_addPerson_68 ?_
      refine lv_iload hx hb dX0_addPerson_71 (lv_at hl 0 rfl) ?_
      refine lv_iconst (v := 0) hx hb dX0_addPerson_73 (by decide) ?_
      refine pt_i hx hb hK hP hD hS hL_w_17 hK_w_17 hN_w_17 (rg_in h_4 (by decide)) dX0_addPerson_74 (fun r_18 H locs er_18 hP hD hS => ?_)
      have hG := GX.wR hG hSH hT_w_17 rfl er_18 (rg_w (rg_k (0 : Int32) 0 rfl) (by decide)) (by decide)
      refine lv_aload_n hx hb dX0_addPerson_75 rfl (lv_at hl 1 rfl) ?_
      obtain ⟨w_19, hR_w_19, hL_w_19, hK_w_19, hN_w_19, hT_w_19⟩ := sh_a hSH 8 (ci := 0) (kd := 13) (len := 40) rfl (by decide) hL_this hK_this
      refine pg_f (v := .ref w_19) (C := RX0) (T := TX0) (N := 16) hx hb hts (tw_i inlX0) hown hK hP hL_this hK_this (by decide) rfl 8 (by decide) (hts _ (tw_c tw_117)) (pq_hv rfl hR_w_19) dX0_addPerson_76 ?_
      refine lv_iload hx hb dX0_addPerson_79 (lv_at hl 0 rfl) ?_
      refine lv_iconst (v := (-1)) hx hb dX0_addPerson_81 (by decide) ?_
      refine pt_i hx hb hK hP hD hS hL_w_19 hK_w_19 hN_w_19 (rg_in h_4 (by decide)) dX0_addPerson_82 (fun r_20 H locs er_20 hP hD hS => ?_)
      have hG := GX.wR hG hSH hT_w_19 rfl er_20 (rg_w (rg_k (-1 : Int32) (-1) rfl) (by decide)) (by decide)
      refine lv_aload_n hx hb dX0_addPerson_83 rfl (lv_at hl 1 rfl) ?_
      obtain ⟨w_21, hR_w_21, hL_w_21, hK_w_21, hN_w_21, hT_w_21⟩ := sh_a hSH 9 (ci := 0) (kd := 13) (len := 40) rfl (by decide) hL_this hK_this
      refine pg_f (v := .ref w_21) (C := RX0) (T := TX0) (N := 16) hx hb hts (tw_i inlX0) hown hK hP hL_this hK_this (by decide) rfl 9 (by decide) (hts _ (tw_c tw_118)) (pq_hv rfl hR_w_21) dX0_addPerson_84 ?_
      refine lv_iload hx hb dX0_addPerson_87 (lv_at hl 0 rfl) ?_
      refine lv_iconst (v := (-1)) hx hb dX0_addPerson_89 (by decide) ?_
      refine pt_i hx hb hK hP hD hS hL_w_21 hK_w_21 hN_w_21 (rg_in h_4 (by decide)) dX0_addPerson_90 (fun r_22 H locs er_22 hP hD hS => ?_)
      have hG := GX.wR hG hSH hT_w_21 rfl er_22 (rg_w (rg_k (-1 : Int32) (-1) rfl) (by decide)) (by decide)
      refine lv_aload_n hx hb dX0_addPerson_91 rfl (lv_at hl 1 rfl) ?_
      refine lv_dup hx hb dX0_addPerson_92 rfl ?_
      refine pg_f (v := .int (I 0 this)) (C := RX0) (T := TX0) (N := 16) hx hb hts (tw_i inlX0) hown hK hP hL_this hK_this (by decide) rfl 0 (by decide) (hts _ (tw_c tw_395)) rfl dX0_addPerson_93 ?_
      refine lv_iconst (v := 1) hx hb dX0_addPerson_96 (by decide) ?_
      refine lv_iadd hx hb dX0_addPerson_97 ?_
      refine lv_topi (fun x_23 ex_23 => ?_)
      have h_24 : rg x_23 1 40 := rg_of_eq ex_23 (rg_add h_4 (rg_k (1 : Int32) 1 rfl) (by decide))
      have uh_24 := h_24.1
      have vh_24 := h_24.2
      have tx_23 : (x_23).toInt = (I 0 this).toInt + 1 := by rw [ex_23]; exact i_add_rg (a2 := (I 0 this).toInt) (b2 := 1) rfl rfl h_4 (rg_k (1 : Int32) 1 rfl) (by decide)
      refine pp_i (v := x_23) (ty := .int) (C := RX0) (T := TX0) (N := 16) hx hb hts (tw_i inlX0) tyX0 tyX0_ok nmX0 hown hK hP hD hS hL_this hK_this (by decide) rfl 0 0 (by decide) (hts _ (tw_c tw_395)) rfl (tyX0_ok 0 (by decide)) rfl rfl (Nat.le_of_ble_eq_true rfl) (ps_0 _ _ _ _ _) dX0_addPerson_98 (fun I_25 H locs eI_25 hP hD hS => ?_)
      have hG := GX.wI hG 0 rfl eI_25 (rg_w h_24 (by decide)) (by decide)
      have tt_26 : (I_25 0 this).toInt = (x_23).toInt := by rw [eI_25, pq_us]
      refine lv_iload hx hb dX0_addPerson_101 (lv_at hl 0 rfl) ?_
      subst hQ
      exact W.iret (v := (I 0 this)) hx hb hr (fun t1 ht hW => ⟨⟨(I 0 this), (σ, I_25, J, r_22, rj, rq), rfl, ⟨I_25, r_22, rfl, hG, (by have k0 : (-1 : Int32).toInt = -1 := rfl; omega), (pu_t pu_rf (pu_p eI_25)), (rg_w h_4 (by decide))⟩, by rw [ht]; exact hP, va_K.moved hW.alike hK, hD⟩, hS.F ht⟩) hS.2.2 dX0_addPerson_103
    · have tc_27 : 40 ≤ (I 0 this).toInt := Int32.le_iff_toInt_le.mp (nlt c_2)
      have h_28 : rg (I 0 this) 40 40 := rg_le2 (nlt c_2) (rg_k (40 : Int32) 40 rfl) h_1 (by decide)
      have uh_28 := h_28.1
      have vh_28 := h_28.2
      refine lv_iconst (v := (-1)) hx hb dX0_addPerson_9 (by decide) ?_
      subst hQ
      exact W.iret (v := (-1)) hx hb hr (fun t1 ht hW => ⟨⟨(-1), (σ, I, J, ri, rj, rq), rfl, ⟨I, ri, rfl, hG, (by have k0 : (-1 : Int32).toInt = -1 := rfl; omega), pu_rf, (rg_w (rg_k (-1 : Int32) (-1) rfl) (by decide))⟩, by rw [ht]; exact hP, va_K.moved hW.alike hK, hD⟩, hS.F ht⟩) hS.2.2 dX0_addPerson_10
  exact go _ _ _ hP hD hS hl

set_option maxHeartbeats 4000000 in
set_option maxRecDepth 100000 in
theorem s_X11_person_w (l : Launch) (D : va_G) (t : pq_T) (σ : pq_S) (I : Nat → Nat → Int32) (J : Nat → Nat → Int64) (ri : Nat → Nat → Int32) (rj : Nat → Nat → Int64) (rq : Nat → Nat → Option Nat) (sz : Nat) (tg : Nat → Nat) (hSH : SH σ tg) (hG0 : GS tg σ I ri rq) (this : Nat) (a0 : Int32) (a1 : Int32) (a2 : Int32) (a3 : Int32) (a4 : Int32) (hL_this : this ∈ σ.1) (hK_this : σ.2.1 this = 11) (this_now : Nat) (hR_this_now : σ.2.2.1 352 this = some this_now) (hL_this_now : this_now ∈ σ.1) (hK_this_now : σ.2.1 this_now = 10) (this_now_folk : Nat) (hR_this_now_folk : σ.2.2.1 328 this_now = some this_now_folk) (hL_this_now_folk : this_now_folk ∈ σ.1) (hK_this_now_folk : σ.2.1 this_now_folk = 0) (this_now_land : Nat) (hR_this_now_land : σ.2.2.1 327 this_now = some this_now_land) (hL_this_now_land : this_now_land ∈ σ.1) (hK_this_now_land : σ.2.1 this_now_land = 2) : MetI l yX11_person (wa yX11_person cX11_person 7 (some .int)) ({ frames := 2, cells := 0, slots := 0, locals := 43 }) [.ref this, .int a0, .int a1, .int a2, .int a3, .int a4] D t σ (I, J, ri, rj, rq) sz 0 0 (fun (r : Int32) (u : pq_S × pq_M) => ∃ I' : Nat → Nat → Int32, ∃ ri' : Nat → Nat → Int32, u = (σ, I', J, ri', rj, rq) ∧ GX [1005, 0] tg σ I ri rj I' ri' rj rq ∧ ((((0 ≤ a0.toInt ∧ a0.toInt ≤ 9) ∧ (0 ≤ a1.toInt ∧ a1.toInt ≤ 99) ∧ (0 ≤ a2.toInt ∧ a2.toInt ≤ 7) ∧ (0 ≤ a3.toInt ∧ a3.toInt < (I 64 this_now_land).toInt) ∧ (0 ≤ a4.toInt ∧ a4.toInt ≤ 100) ∧ (I 0 this_now_folk).toInt < 40) ∧ r.toInt = (I 0 this_now_folk).toInt ∧ (I' 0 this_now_folk).toInt = (I 0 this_now_folk).toInt + 1) ∨ (¬ ((0 ≤ a0.toInt ∧ a0.toInt ≤ 9) ∧ (0 ≤ a1.toInt ∧ a1.toInt ≤ 99) ∧ (0 ≤ a2.toInt ∧ a2.toInt ≤ 7) ∧ (0 ≤ a3.toInt ∧ a3.toInt < (I 64 this_now_land).toInt) ∧ (0 ≤ a4.toInt ∧ a4.toInt ≤ 100) ∧ (I 0 this_now_folk).toInt < 40) ∧ r.toInt = -1 ∧ (I' 0 this_now_folk).toInt = (I 0 this_now_folk).toInt)) ∧ (PU1 0 this_now_folk I I') ∧ rg r (-1) 39) := by
  refine Met.ofW (cc := cX11_person) (maxL := 7) (ret := (some .int)) (by decide) rfl ?_
  intro p e s m args below meth c s₁ B hml hv
  obtain ⟨rfl, hsz, hP, hK, hD0, hN⟩ := hv
  have hx := B.exec
  have hb := B.bytes
  have hr := B.returns
  have hts := atoms_spec (ws := (wa yX11_person cX11_person 7 (some .int))) B.pre
  have hown : s.vm.findClass RX11 = some m.cls := findClass_of_methodNamed B.named
  have hlocks := B.notSynchronized
  subst hsz
  have hD : va_D (pq_B t σ (I, J, ri, rj, rq) s.heap.size) (pq_P t σ (I, J, ri, rj, rq)) := hD0.self
  generalize hAe : pq_B t σ (I, J, ri, rj, rq) s.heap.size = A at hD ⊢
  have hA : ∀ q : Nat, s.heap.size ≤ q → A q := fun q h => by rw [← hAe]; exact Or.inr h
  have hS : va_S A s.heap s.heap [] := va_S.rf
  have hG : GX [1005, 0] tg σ I ri rj I ri rj rq := ⟨hG0, fun _ _ _ => rfl, fun _ _ _ _ _ => rfl, fun _ _ _ _ _ => rfl⟩
  have hl := lv_entry ([.ref this, .int a0, .int a1, .int a2, .int a3, .int a4]) (n := 7) (Nat.le_of_ble_eq_true rfl)
  rw [lg_entry_eq]
  generalize (lg_sl ([.ref this, .int a0, .int a1, .int a2, .int a3, .int a4]) ++ List.replicate (7 - (lg_sl ([.ref this, .int a0, .int a1, .int a2, .int a3, .int a4])).length) Slot.unset).toArray = ls at hl ⊢
  have hl : lv_has ls 7 [(0, .ref this), (1, .int a0), (2, .int a1), (3, .int a2), (4, .int a3), (5, .int a4)] := hl
  refine q_gen (fun Q hQ => ?_)
  have go : ∀ (H : Heap) (locs : List Loc) (ls : Array Slot), va_P D vwCl (pq_P t σ (I, J, ri, rj, rq)) H → va_D A (pq_P t σ (I, J, ri, rj, rq)) → va_S A s.heap H locs → lv_has ls 7 [(0, .ref this), (1, .int a0), (2, .int a1), (3, .int a2), (4, .int a3), (5, .int a4)] → W p l e ({ frames := 2, cells := 0, slots := 0, locals := 43 } : Room) s m (List.toArray ([.ref this, .int a0, .int a1, .int a2, .int a3, .int a4] : List Value)) below meth c H locs 0 0 Q (F0 m 0 ls []) := by
    intro H locs ls hP hD hS hl
    refine lv_iload_n hx hb dX11_person_0 rfl (lv_at hl 1 rfl) ?_
    refine lv_iconst (v := 0) hx hb dX11_person_1 (by decide) ?_
    refine lv_bipush (v := 9) hx hb dX11_person_2 (by decide) ?_
    refine pk_i (va_runS (As := [.int a0, .int 0, .int 9]) (rest := []) ⟨hx, hb, hml, hown, hts⟩ (s_X11_between_v l D t σ I J ri rj rq H.size tg hSH hG.1 a0 (0 : Int32) (9 : Int32)) (va_cwS 3 hts (tw_S tw_215 tw_216 tw_2 tw_217) rfl rfl rfl cd_yX11_between_3 ⟨Nat.le_of_ble_eq_true rfl, Nat.le_of_ble_eq_true rfl⟩) ⟨pq_blind, pq_pre hK hN hP hD⟩ rfl rfl hl.1 rfl (lv_room (Nat.le_of_ble_eq_true rfl)) dX11_person_4 ⟨Nat.le_of_ble_eq_true rfl, Nat.le_of_ble_eq_true rfl⟩) hD hS hA (fun x_1 σ1 μ1 H locs hw_2 hP hD hS => ?_)
    obtain ⟨hu_3, hr_5⟩ := hw_2
    obtain ⟨hu_3a, hu_3b⟩ := Prod.mk.inj hu_3
    rw [hu_3a, hu_3b] at hP hD
    have h_6 : rg x_1 0 1 := by rcases hr_5 with ⟨q, -⟩ | ⟨q, -⟩ <;> rw [q] <;> exact ⟨by decide, by decide⟩
    have uh_6 := h_6.1
    have vh_6 := h_6.2
    refine lv_if_eq (tgt := 54) hx hb dX11_person_7 (by decide) (fun c_7 => ?_) (fun c_7 => ?_)
    · have f_8 := (hr_5.resolve_left (fun q => absurd (q.1.symm.trans c_7) (by decide))).2
      have zk_9 : (0 : Int32).toInt = 0 := rfl
      have zk_10 : (9 : Int32).toInt = 9 := rfl
      have tc_11 : (x_1).toInt = 0 := congrArg Int32.toInt c_7
      have h_12 : rg x_1 0 0 := rg_and h_6 (rg_of_eq c_7 (rg_k (0 : Int32) 0 rfl)) (by decide)
      have uh_12 := h_12.1
      have vh_12 := h_12.2
      refine lv_iconst (v := 0) hx hb dX11_person_54 (by decide) ?_
      refine lv_istore (lv' := [(6, .int 0), (0, .ref this), (1, .int a0), (2, .int a1), (3, .int a2), (4, .int a3), (5, .int a4)]) hx hb dX11_person_55 hl (by decide) rfl (fun ls hl => ?_)
      refine lv_iload hx hb dX11_person_57 (lv_at hl 0 rfl) ?_
      refine lv_if_eq (tgt := 77) hx hb dX11_person_59 (by decide) (fun c_13 => ?_) (fun c_13 => absurd c_13 (by decide))
      refine lv_iconst (v := (-1)) hx hb dX11_person_77 (by decide) ?_
      subst hQ
      exact W.iret (v := (-1)) hx hb hr (fun t1 ht hW => ⟨⟨(-1), (σ, I, J, ri, rj, rq), rfl, ⟨I, ri, rfl, hG, (by have k0 : (-1 : Int32).toInt = -1 := rfl; omega), pu_rf, (rg_w (rg_k (-1 : Int32) (-1) rfl) (by decide))⟩, by rw [ht]; exact hP, va_K.moved hW.alike hK, hD⟩, hS.F ht⟩) hS.2.2 dX11_person_78
    · obtain ⟨f_14, f_15⟩ := (hr_5.resolve_right (fun q => c_7 q.1)).2
      have tc_16 : 0 ≤ (a0).toInt := Int32.le_iff_toInt_le.mp f_14
      have h_17 : rg a0 0 2147483647 := rg_le2 f_14 (rg_k (0 : Int32) 0 rfl) (rg_full _) (by decide)
      have uh_17 := h_17.1
      have vh_17 := h_17.2
      have tc_18 : (a0).toInt ≤ 9 := Int32.le_iff_toInt_le.mp f_15
      have h_19 : rg a0 0 9 := rg_le1 f_15 h_17 (rg_k (9 : Int32) 9 rfl) (by decide)
      have uh_19 := h_19.1
      have vh_19 := h_19.2
      have tc_20 : (x_1).toInt ≠ 0 := fun q => c_7 (Int32.toInt_inj.mp q)
      have h_21 : rg x_1 1 1 := rg_ne c_7 h_6 0 rfl (by decide)
      have uh_21 := h_21.1
      have vh_21 := h_21.2
      refine lv_iload_n hx hb dX11_person_10 rfl (lv_at hl 2 rfl) ?_
      refine lv_iconst (v := 0) hx hb dX11_person_11 (by decide) ?_
      refine lv_bipush (v := 99) hx hb dX11_person_12 (by decide) ?_
      refine pk_i (va_runS (As := [.int a1, .int 0, .int 99]) (rest := []) ⟨hx, hb, hml, hown, hts⟩ (s_X11_between_v l D t σ I J ri rj rq H.size tg hSH hG.1 a1 (0 : Int32) (99 : Int32)) (va_cwS 3 hts (tw_S tw_215 tw_216 tw_2 tw_217) rfl rfl rfl cd_yX11_between_3 ⟨Nat.le_of_ble_eq_true rfl, Nat.le_of_ble_eq_true rfl⟩) ⟨pq_blind, pq_pre hK hN hP hD⟩ rfl rfl hl.1 rfl (lv_room (Nat.le_of_ble_eq_true rfl)) dX11_person_14 ⟨Nat.le_of_ble_eq_true rfl, Nat.le_of_ble_eq_true rfl⟩) hD hS hA (fun x_22 σ1 μ1 H locs hw_23 hP hD hS => ?_)
      obtain ⟨hu_24, hr_26⟩ := hw_23
      obtain ⟨hu_24a, hu_24b⟩ := Prod.mk.inj hu_24
      rw [hu_24a, hu_24b] at hP hD
      have h_27 : rg x_22 0 1 := by rcases hr_26 with ⟨q, -⟩ | ⟨q, -⟩ <;> rw [q] <;> exact ⟨by decide, by decide⟩
      have uh_27 := h_27.1
      have vh_27 := h_27.2
      refine lv_if_eq (tgt := 54) hx hb dX11_person_17 (by decide) (fun c_28 => ?_) (fun c_28 => ?_)
      · have f_29 := (hr_26.resolve_left (fun q => absurd (q.1.symm.trans c_28) (by decide))).2
        have zk_30 : (0 : Int32).toInt = 0 := rfl
        have zk_31 : (99 : Int32).toInt = 99 := rfl
        have tc_32 : (x_22).toInt = 0 := congrArg Int32.toInt c_28
        have h_33 : rg x_22 0 0 := rg_and h_27 (rg_of_eq c_28 (rg_k (0 : Int32) 0 rfl)) (by decide)
        have uh_33 := h_33.1
        have vh_33 := h_33.2
        refine lv_iconst (v := 0) hx hb dX11_person_54 (by decide) ?_
        refine lv_istore (lv' := [(6, .int 0), (0, .ref this), (1, .int a0), (2, .int a1), (3, .int a2), (4, .int a3), (5, .int a4)]) hx hb dX11_person_55 hl (by decide) rfl (fun ls hl => ?_)
        refine lv_iload hx hb dX11_person_57 (lv_at hl 0 rfl) ?_
        refine lv_if_eq (tgt := 77) hx hb dX11_person_59 (by decide) (fun c_34 => ?_) (fun c_34 => absurd c_34 (by decide))
        refine lv_iconst (v := (-1)) hx hb dX11_person_77 (by decide) ?_
        subst hQ
        exact W.iret (v := (-1)) hx hb hr (fun t1 ht hW => ⟨⟨(-1), (σ, I, J, ri, rj, rq), rfl, ⟨I, ri, rfl, hG, (by have k0 : (-1 : Int32).toInt = -1 := rfl; omega), pu_rf, (rg_w (rg_k (-1 : Int32) (-1) rfl) (by decide))⟩, by rw [ht]; exact hP, va_K.moved hW.alike hK, hD⟩, hS.F ht⟩) hS.2.2 dX11_person_78
      · obtain ⟨f_35, f_36⟩ := (hr_26.resolve_right (fun q => c_28 q.1)).2
        have tc_37 : 0 ≤ (a1).toInt := Int32.le_iff_toInt_le.mp f_35
        have h_38 : rg a1 0 2147483647 := rg_le2 f_35 (rg_k (0 : Int32) 0 rfl) (rg_full _) (by decide)
        have uh_38 := h_38.1
        have vh_38 := h_38.2
        have tc_39 : (a1).toInt ≤ 99 := Int32.le_iff_toInt_le.mp f_36
        have h_40 : rg a1 0 99 := rg_le1 f_36 h_38 (rg_k (99 : Int32) 99 rfl) (by decide)
        have uh_40 := h_40.1
        have vh_40 := h_40.2
        have tc_41 : (x_22).toInt ≠ 0 := fun q => c_28 (Int32.toInt_inj.mp q)
        have h_42 : rg x_22 1 1 := rg_ne c_28 h_27 0 rfl (by decide)
        have uh_42 := h_42.1
        have vh_42 := h_42.2
        refine lv_iload_n hx hb dX11_person_20 rfl (lv_at hl 3 rfl) ?_
        refine lv_iconst (v := 0) hx hb dX11_person_21 (by decide) ?_
        refine lv_bipush (v := 7) hx hb dX11_person_22 (by decide) ?_
        refine pk_i (va_runS (As := [.int a2, .int 0, .int 7]) (rest := []) ⟨hx, hb, hml, hown, hts⟩ (s_X11_between_v l D t σ I J ri rj rq H.size tg hSH hG.1 a2 (0 : Int32) (7 : Int32)) (va_cwS 3 hts (tw_S tw_215 tw_216 tw_2 tw_217) rfl rfl rfl cd_yX11_between_3 ⟨Nat.le_of_ble_eq_true rfl, Nat.le_of_ble_eq_true rfl⟩) ⟨pq_blind, pq_pre hK hN hP hD⟩ rfl rfl hl.1 rfl (lv_room (Nat.le_of_ble_eq_true rfl)) dX11_person_24 ⟨Nat.le_of_ble_eq_true rfl, Nat.le_of_ble_eq_true rfl⟩) hD hS hA (fun x_43 σ1 μ1 H locs hw_44 hP hD hS => ?_)
        obtain ⟨hu_45, hr_47⟩ := hw_44
        obtain ⟨hu_45a, hu_45b⟩ := Prod.mk.inj hu_45
        rw [hu_45a, hu_45b] at hP hD
        have h_48 : rg x_43 0 1 := by rcases hr_47 with ⟨q, -⟩ | ⟨q, -⟩ <;> rw [q] <;> exact ⟨by decide, by decide⟩
        have uh_48 := h_48.1
        have vh_48 := h_48.2
        refine lv_if_eq (tgt := 54) hx hb dX11_person_27 (by decide) (fun c_49 => ?_) (fun c_49 => ?_)
        · have f_50 := (hr_47.resolve_left (fun q => absurd (q.1.symm.trans c_49) (by decide))).2
          have zk_51 : (0 : Int32).toInt = 0 := rfl
          have zk_52 : (7 : Int32).toInt = 7 := rfl
          have tc_53 : (x_43).toInt = 0 := congrArg Int32.toInt c_49
          have h_54 : rg x_43 0 0 := rg_and h_48 (rg_of_eq c_49 (rg_k (0 : Int32) 0 rfl)) (by decide)
          have uh_54 := h_54.1
          have vh_54 := h_54.2
          refine lv_iconst (v := 0) hx hb dX11_person_54 (by decide) ?_
          refine lv_istore (lv' := [(6, .int 0), (0, .ref this), (1, .int a0), (2, .int a1), (3, .int a2), (4, .int a3), (5, .int a4)]) hx hb dX11_person_55 hl (by decide) rfl (fun ls hl => ?_)
          refine lv_iload hx hb dX11_person_57 (lv_at hl 0 rfl) ?_
          refine lv_if_eq (tgt := 77) hx hb dX11_person_59 (by decide) (fun c_55 => ?_) (fun c_55 => absurd c_55 (by decide))
          refine lv_iconst (v := (-1)) hx hb dX11_person_77 (by decide) ?_
          subst hQ
          exact W.iret (v := (-1)) hx hb hr (fun t1 ht hW => ⟨⟨(-1), (σ, I, J, ri, rj, rq), rfl, ⟨I, ri, rfl, hG, (by have k0 : (-1 : Int32).toInt = -1 := rfl; omega), pu_rf, (rg_w (rg_k (-1 : Int32) (-1) rfl) (by decide))⟩, by rw [ht]; exact hP, va_K.moved hW.alike hK, hD⟩, hS.F ht⟩) hS.2.2 dX11_person_78
        · obtain ⟨f_56, f_57⟩ := (hr_47.resolve_right (fun q => c_49 q.1)).2
          have tc_58 : 0 ≤ (a2).toInt := Int32.le_iff_toInt_le.mp f_56
          have h_59 : rg a2 0 2147483647 := rg_le2 f_56 (rg_k (0 : Int32) 0 rfl) (rg_full _) (by decide)
          have uh_59 := h_59.1
          have vh_59 := h_59.2
          have tc_60 : (a2).toInt ≤ 7 := Int32.le_iff_toInt_le.mp f_57
          have h_61 : rg a2 0 7 := rg_le1 f_57 h_59 (rg_k (7 : Int32) 7 rfl) (by decide)
          have uh_61 := h_61.1
          have vh_61 := h_61.2
          have tc_62 : (x_43).toInt ≠ 0 := fun q => c_49 (Int32.toInt_inj.mp q)
          have h_63 : rg x_43 1 1 := rg_ne c_49 h_48 0 rfl (by decide)
          have uh_63 := h_63.1
          have vh_63 := h_63.2
          refine lv_aload_n hx hb dX11_person_30 rfl (lv_at hl 0 rfl) ?_
          refine lv_iload hx hb dX11_person_31 (lv_at hl 4 rfl) ?_
          refine pk_i (va_runV (As := [.int a3]) (rest := []) ⟨hx, hb, hml, hown, hts⟩ (s_X11_isRing_w l D t σ I J ri rj rq H.size tg hSH hG.1 this a3 hL_this hK_this this_now hR_this_now hL_this_now hK_this_now this_now_land hR_this_now_land hL_this_now_land hK_this_now_land) (cwV 1 hts (tw_V tw_211 tw_212 tw_213 tw_2 tw_214) rfl rfl rfl cv_yX11_isRing_1 ⟨Nat.le_of_ble_eq_true rfl, Nat.le_of_ble_eq_true rfl⟩) ⟨pq_blind, pq_recv hK hP hL_this hK_this (by decide) rfl, pq_pre hK hN hP hD⟩ rfl rfl hl.1 rfl (lv_room (Nat.le_of_ble_eq_true rfl)) dX11_person_33 ⟨Nat.le_of_ble_eq_true rfl, Nat.le_of_ble_eq_true rfl⟩) hD hS hA (fun x_64 σ1 μ1 H locs hw_65 hP hD hS => ?_)
          obtain ⟨hu_66, hr_68⟩ := hw_65
          obtain ⟨hu_66a, hu_66b⟩ := Prod.mk.inj hu_66
          rw [hu_66a, hu_66b] at hP hD
          have h_69 : rg x_64 0 1 := by rcases hr_68 with ⟨q, -⟩ | ⟨q, -⟩ <;> rw [q] <;> exact ⟨by decide, by decide⟩
          have uh_69 := h_69.1
          have vh_69 := h_69.2
          refine lv_if_eq (tgt := 54) hx hb dX11_person_36 (by decide) (fun c_70 => ?_) (fun c_70 => ?_)
          · have f_71 := (hr_68.resolve_left (fun q => absurd (q.1.symm.trans c_70) (by decide))).2
            have tc_72 : (x_64).toInt = 0 := congrArg Int32.toInt c_70
            have h_73 : rg x_64 0 0 := rg_and h_69 (rg_of_eq c_70 (rg_k (0 : Int32) 0 rfl)) (by decide)
            have uh_73 := h_73.1
            have vh_73 := h_73.2
            refine lv_iconst (v := 0) hx hb dX11_person_54 (by decide) ?_
            refine lv_istore (lv' := [(6, .int 0), (0, .ref this), (1, .int a0), (2, .int a1), (3, .int a2), (4, .int a3), (5, .int a4)]) hx hb dX11_person_55 hl (by decide) rfl (fun ls hl => ?_)
            refine lv_iload hx hb dX11_person_57 (lv_at hl 0 rfl) ?_
            refine lv_if_eq (tgt := 77) hx hb dX11_person_59 (by decide) (fun c_74 => ?_) (fun c_74 => absurd c_74 (by decide))
            refine lv_iconst (v := (-1)) hx hb dX11_person_77 (by decide) ?_
            subst hQ
            exact W.iret (v := (-1)) hx hb hr (fun t1 ht hW => ⟨⟨(-1), (σ, I, J, ri, rj, rq), rfl, ⟨I, ri, rfl, hG, (by have k0 : (-1 : Int32).toInt = -1 := rfl; omega), pu_rf, (rg_w (rg_k (-1 : Int32) (-1) rfl) (by decide))⟩, by rw [ht]; exact hP, va_K.moved hW.alike hK, hD⟩, hS.F ht⟩) hS.2.2 dX11_person_78
          · obtain ⟨f_75, f_76⟩ := (hr_68.resolve_right (fun q => c_70 q.1)).2
            have tc_77 : (x_64).toInt ≠ 0 := fun q => c_70 (Int32.toInt_inj.mp q)
            have h_78 : rg x_64 1 1 := rg_ne c_70 h_69 0 rfl (by decide)
            have uh_78 := h_78.1
            have vh_78 := h_78.2
            refine lv_iload hx hb dX11_person_39 (lv_at hl 5 rfl) ?_
            refine lv_iconst (v := 0) hx hb dX11_person_41 (by decide) ?_
            refine lv_bipush (v := 100) hx hb dX11_person_42 (by decide) ?_
            refine pk_i (va_runS (As := [.int a4, .int 0, .int 100]) (rest := []) ⟨hx, hb, hml, hown, hts⟩ (s_X11_between_v l D t σ I J ri rj rq H.size tg hSH hG.1 a4 (0 : Int32) (100 : Int32)) (va_cwS 3 hts (tw_S tw_215 tw_216 tw_2 tw_217) rfl rfl rfl cd_yX11_between_3 ⟨Nat.le_of_ble_eq_true rfl, Nat.le_of_ble_eq_true rfl⟩) ⟨pq_blind, pq_pre hK hN hP hD⟩ rfl rfl hl.1 rfl (lv_room (Nat.le_of_ble_eq_true rfl)) dX11_person_44 ⟨Nat.le_of_ble_eq_true rfl, Nat.le_of_ble_eq_true rfl⟩) hD hS hA (fun x_79 σ1 μ1 H locs hw_80 hP hD hS => ?_)
            obtain ⟨hu_81, hr_83⟩ := hw_80
            obtain ⟨hu_81a, hu_81b⟩ := Prod.mk.inj hu_81
            rw [hu_81a, hu_81b] at hP hD
            have h_84 : rg x_79 0 1 := by rcases hr_83 with ⟨q, -⟩ | ⟨q, -⟩ <;> rw [q] <;> exact ⟨by decide, by decide⟩
            have uh_84 := h_84.1
            have vh_84 := h_84.2
            refine lv_if_eq (tgt := 54) hx hb dX11_person_47 (by decide) (fun c_85 => ?_) (fun c_85 => ?_)
            · have f_86 := (hr_83.resolve_left (fun q => absurd (q.1.symm.trans c_85) (by decide))).2
              have zk_87 : (0 : Int32).toInt = 0 := rfl
              have zk_88 : (100 : Int32).toInt = 100 := rfl
              have tc_89 : (x_79).toInt = 0 := congrArg Int32.toInt c_85
              have h_90 : rg x_79 0 0 := rg_and h_84 (rg_of_eq c_85 (rg_k (0 : Int32) 0 rfl)) (by decide)
              have uh_90 := h_90.1
              have vh_90 := h_90.2
              refine lv_iconst (v := 0) hx hb dX11_person_54 (by decide) ?_
              refine lv_istore (lv' := [(6, .int 0), (0, .ref this), (1, .int a0), (2, .int a1), (3, .int a2), (4, .int a3), (5, .int a4)]) hx hb dX11_person_55 hl (by decide) rfl (fun ls hl => ?_)
              refine lv_iload hx hb dX11_person_57 (lv_at hl 0 rfl) ?_
              refine lv_if_eq (tgt := 77) hx hb dX11_person_59 (by decide) (fun c_91 => ?_) (fun c_91 => absurd c_91 (by decide))
              refine lv_iconst (v := (-1)) hx hb dX11_person_77 (by decide) ?_
              subst hQ
              exact W.iret (v := (-1)) hx hb hr (fun t1 ht hW => ⟨⟨(-1), (σ, I, J, ri, rj, rq), rfl, ⟨I, ri, rfl, hG, (by have k0 : (-1 : Int32).toInt = -1 := rfl; omega), pu_rf, (rg_w (rg_k (-1 : Int32) (-1) rfl) (by decide))⟩, by rw [ht]; exact hP, va_K.moved hW.alike hK, hD⟩, hS.F ht⟩) hS.2.2 dX11_person_78
            · obtain ⟨f_92, f_93⟩ := (hr_83.resolve_right (fun q => c_85 q.1)).2
              have tc_94 : 0 ≤ (a4).toInt := Int32.le_iff_toInt_le.mp f_92
              have h_95 : rg a4 0 2147483647 := rg_le2 f_92 (rg_k (0 : Int32) 0 rfl) (rg_full _) (by decide)
              have uh_95 := h_95.1
              have vh_95 := h_95.2
              have tc_96 : (a4).toInt ≤ 100 := Int32.le_iff_toInt_le.mp f_93
              have h_97 : rg a4 0 100 := rg_le1 f_93 h_95 (rg_k (100 : Int32) 100 rfl) (by decide)
              have uh_97 := h_97.1
              have vh_97 := h_97.2
              have tc_98 : (x_79).toInt ≠ 0 := fun q => c_85 (Int32.toInt_inj.mp q)
              have h_99 : rg x_79 1 1 := rg_ne c_85 h_84 0 rfl (by decide)
              have uh_99 := h_99.1
              have vh_99 := h_99.2
              refine lv_iconst (v := 1) hx hb dX11_person_50 (by decide) ?_
              refine lv_goto (tgt := 55) hx hb dX11_person_51 (by decide) ?_
              refine lv_istore (lv' := [(6, .int 1), (0, .ref this), (1, .int a0), (2, .int a1), (3, .int a2), (4, .int a3), (5, .int a4)]) hx hb dX11_person_55 hl (by decide) rfl (fun ls hl => ?_)
              refine lv_iload hx hb dX11_person_57 (lv_at hl 0 rfl) ?_
              refine lv_if_eq (tgt := 77) hx hb dX11_person_59 (by decide) (fun c_100 => absurd c_100 (by decide)) (fun c_100 => ?_)
              refine lv_aload_n hx hb dX11_person_62 rfl (lv_at hl 1 rfl) ?_
              refine pg_f (v := .ref this_now) (C := RX11) (T := TX11) (N := 5) hx hb hts (tw_i inlX11) hown hK hP hL_this hK_this (by decide) rfl 0 (by decide) (hts _ (tw_c tw_16)) (pq_hv rfl hR_this_now) dX11_person_63 ?_
              refine pg_f (v := .ref this_now_folk) (C := RX10) (T := TX10) (N := 13) hx hb hts (tw_i inlX10) hown hK hP hL_this_now hK_this_now (by decide) rfl 8 (by decide) (hts _ (tw_c tw_379)) (pq_hv rfl hR_this_now_folk) dX11_person_66 ?_
              refine pg_f (v := .int (I 0 this_now_folk)) (C := RX0) (T := TX0) (N := 16) hx hb hts (tw_i inlX0) hown hK hP hL_this_now_folk hK_this_now_folk (by decide) rfl 0 (by decide) (hts _ (tw_c tw_390)) rfl dX11_person_69 ?_
              have h_101 : rg (I 0 this_now_folk) 0 40 := GX.rI hG 0 rfl
              have uh_101 := h_101.1
              have vh_101 := h_101.2
              refine lv_bipush (v := 40) hx hb dX11_person_72 (by decide) ?_
              refine lv_icmp_lt (tgt := 79) hx hb dX11_person_74 (by decide) (fun c_102 => ?_) (fun c_102 => ?_)
              · have tc_103 : (I 0 this_now_folk).toInt < 40 := Int32.lt_iff_toInt_lt.mp c_102
                have h_104 : rg (I 0 this_now_folk) 0 39 := rg_lt1 c_102 h_101 (rg_k (40 : Int32) 40 rfl) (by decide)
                have uh_104 := h_104.1
                have vh_104 := h_104.2
                refine lv_aload_n hx hb dX11_person_79 rfl (lv_at hl 1 rfl) ?_
                refine pg_f (v := .ref this_now) (C := RX11) (T := TX11) (N := 5) hx hb hts (tw_i inlX11) hown hK hP hL_this hK_this (by decide) rfl 0 (by decide) (hts _ (tw_c tw_16)) (pq_hv rfl hR_this_now) dX11_person_80 ?_
                refine pg_f (v := .ref this_now_folk) (C := RX10) (T := TX10) (N := 13) hx hb hts (tw_i inlX10) hown hK hP hL_this_now hK_this_now (by decide) rfl 8 (by decide) (hts _ (tw_c tw_379)) (pq_hv rfl hR_this_now_folk) dX11_person_83 ?_
                refine lv_iload_n hx hb dX11_person_86 rfl (lv_at hl 2 rfl) ?_
                refine lv_iload_n hx hb dX11_person_87 rfl (lv_at hl 3 rfl) ?_
                refine lv_iload_n hx hb dX11_person_88 rfl (lv_at hl 4 rfl) ?_
                refine lv_iload hx hb dX11_person_89 (lv_at hl 5 rfl) ?_
                refine lv_iload hx hb dX11_person_91 (lv_at hl 6 rfl) ?_
                refine pk_i (va_runV (As := [.int a0, .int a1, .int a2, .int a3, .int a4]) (rest := []) ⟨hx, hb, hml, hown, hts⟩ (s_X0_addPerson_w l D t σ I J ri rj rq H.size tg hSH hG.1 this_now_folk a0 a1 a2 a3 a4 hL_this_now_folk hK_this_now_folk (rg_w h_19 (by decide)) (rg_w f_75 (by decide))) (cwV 5 hts (tw_V tw_391 tw_392 tw_393 tw_45 tw_394) rfl rfl rfl cv_yX0_addPerson_5 ⟨Nat.le_of_ble_eq_true rfl, Nat.le_of_ble_eq_true rfl⟩) ⟨pq_blind, pq_recv hK hP hL_this_now_folk hK_this_now_folk (by decide) rfl, pq_pre hK hN hP hD⟩ rfl rfl hl.1 rfl (lv_room (Nat.le_of_ble_eq_true rfl)) dX11_person_93 ⟨Nat.le_of_ble_eq_true rfl, Nat.le_of_ble_eq_true rfl⟩) hD hS hA (fun x_105 σ1 μ1 H locs hw_106 hP hD hS => ?_)
                obtain ⟨I_107, ri_108, hu_109, hg_110, hp_112, hp_113, hr_111⟩ := hw_106
                obtain ⟨hu_109a, hu_109b⟩ := Prod.mk.inj hu_109
                rw [hu_109a, hu_109b] at hP hD
                have tt_114 := hp_112
                have hG := GX.tr hG hg_110 (by decide)
                subst hQ
                exact W.iret (v := x_105) hx hb hr (fun t1 ht hW => ⟨⟨x_105, (σ, I_107, J, ri_108, rj, rq), rfl, ⟨I_107, ri_108, rfl, hG, (by have k0 : (-1 : Int32).toInt = -1 := rfl; omega), (pu_t pu_rf hp_113), (rg_w hr_111 (by decide))⟩, by rw [ht]; exact hP, va_K.moved hW.alike hK, hD⟩, hS.F ht⟩) hS.2.2 dX11_person_96
              · have tc_115 : 40 ≤ (I 0 this_now_folk).toInt := Int32.le_iff_toInt_le.mp (nlt c_102)
                have h_116 : rg (I 0 this_now_folk) 40 40 := rg_le2 (nlt c_102) (rg_k (40 : Int32) 40 rfl) h_101 (by decide)
                have uh_116 := h_116.1
                have vh_116 := h_116.2
                refine lv_iconst (v := (-1)) hx hb dX11_person_77 (by decide) ?_
                subst hQ
                exact W.iret (v := (-1)) hx hb hr (fun t1 ht hW => ⟨⟨(-1), (σ, I, J, ri, rj, rq), rfl, ⟨I, ri, rfl, hG, (by have k0 : (-1 : Int32).toInt = -1 := rfl; omega), pu_rf, (rg_w (rg_k (-1 : Int32) (-1) rfl) (by decide))⟩, by rw [ht]; exact hP, va_K.moved hW.alike hK, hD⟩, hS.F ht⟩) hS.2.2 dX11_person_78
  exact go _ _ _ hP hD hS hl

set_option maxHeartbeats 4000000 in
set_option maxRecDepth 100000 in
theorem s_X1_dig_w (l : Launch) (D : va_G) (t : pq_T) (σ : pq_S) (I : Nat → Nat → Int32) (J : Nat → Nat → Int64) (ri : Nat → Nat → Int32) (rj : Nat → Nat → Int64) (rq : Nat → Nat → Option Nat) (sz : Nat) (tg : Nat → Nat) (hSH : SH σ tg) (hG0 : GS tg σ I ri rq) (this : Nat) (a0 : Int32) (hL_this : this ∈ σ.1) (hK_this : σ.2.1 this = 1) (h_a0 : rg a0 0 39) (this_cell : Nat) (hR_this_cell : σ.2.2.1 33 this = some this_cell) (hL_this_cell : this_cell ∈ σ.1) (hK_this_cell : σ.2.1 this_cell = 13) (hN_this_cell : σ.2.2.2 this_cell = 30) (hT_this_cell : tg this_cell = 33) : MetI l yX1_dig (wa yX1_dig cX1_dig 2 (some .int)) ({ frames := 0, cells := 0, slots := 0, locals := 0 }) [.ref this, .int a0] D t σ (I, J, ri, rj, rq) sz 0 0 (fun (r : Int32) (u : pq_S × pq_M) => ∃ I' : Nat → Nat → Int32, ∃ ri' : Nat → Nat → Int32, ∃ rj' : Nat → Nat → Int64, u = (σ, I', J, ri', rj', rq) ∧ GX [1033, 1034, 32] tg σ I ri rj I' ri' rj' rq ∧ ((((I 32 this).toInt < 30) ∧ r.toInt = (I 32 this).toInt ∧ (I' 32 this).toInt = (I 32 this).toInt + 1) ∨ (¬ ((I 32 this).toInt < 30) ∧ r.toInt = -1 ∧ (I' 32 this).toInt = (I 32 this).toInt)) ∧ (PU1 32 this I I') ∧ (((I 32 this).toInt < 30 ∧ RW1 tg 33 this_cell (I 32 this).toNatClampNeg a0 ri ri') ∨ (¬ ((I 32 this).toInt < 30) ∧ RID tg 33 ri ri')) ∧ rg r (-1) 29) := by
  refine Met.ofW (cc := cX1_dig) (maxL := 2) (ret := (some .int)) (by decide) rfl ?_
  intro p e s m args below meth c s₁ B hml hv
  obtain ⟨rfl, hsz, hP, hK, hD0, hN⟩ := hv
  have hx := B.exec
  have hb := B.bytes
  have hr := B.returns
  have hts := atoms_spec (ws := (wa yX1_dig cX1_dig 2 (some .int))) B.pre
  have hown : s.vm.findClass RX1 = some m.cls := findClass_of_methodNamed B.named
  have hlocks := B.notSynchronized
  subst hsz
  have hD : va_D (pq_B t σ (I, J, ri, rj, rq) s.heap.size) (pq_P t σ (I, J, ri, rj, rq)) := hD0.self
  generalize hAe : pq_B t σ (I, J, ri, rj, rq) s.heap.size = A at hD ⊢
  have hA : ∀ q : Nat, s.heap.size ≤ q → A q := fun q h => by rw [← hAe]; exact Or.inr h
  have hS : va_S A s.heap s.heap [] := va_S.rf
  have hG : GX [1033, 1034, 32] tg σ I ri rj I ri rj rq := ⟨hG0, fun _ _ _ => rfl, fun _ _ _ _ _ => rfl, fun _ _ _ _ _ => rfl⟩
  have hl := lv_entry ([.ref this, .int a0]) (n := 2) (Nat.le_of_ble_eq_true rfl)
  rw [lg_entry_eq]
  generalize (lg_sl ([.ref this, .int a0]) ++ List.replicate (2 - (lg_sl ([.ref this, .int a0])).length) Slot.unset).toArray = ls at hl ⊢
  have hl : lv_has ls 2 [(0, .ref this), (1, .int a0)] := hl
  refine q_gen (fun Q hQ => ?_)
  have go : ∀ (H : Heap) (locs : List Loc) (ls : Array Slot), va_P D vwCl (pq_P t σ (I, J, ri, rj, rq)) H → va_D A (pq_P t σ (I, J, ri, rj, rq)) → va_S A s.heap H locs → lv_has ls 2 [(0, .ref this), (1, .int a0)] → W p l e ({ frames := 0, cells := 0, slots := 0, locals := 0 } : Room) s m (List.toArray ([.ref this, .int a0] : List Value)) below meth c H locs 0 0 Q (F0 m 0 ls []) := by
    intro H locs ls hP hD hS hl
    refine lv_aload_n hx hb dX1_dig_0 rfl (lv_at hl 0 rfl) ?_
    refine pg_f (v := .int (I 32 this)) (C := RX1) (T := TX1) (N := 3) hx hb hts (tw_i inlX1) hown hK hP hL_this hK_this (by decide) rfl 0 (by decide) (hts _ (tw_c tw_1393)) rfl dX1_dig_1 ?_
    have h_1 : rg (I 32 this) 0 30 := GX.rI hG 32 rfl
    have uh_1 := h_1.1
    have vh_1 := h_1.2
    refine lv_bipush (v := 30) hx hb dX1_dig_4 (by decide) ?_
    refine lv_icmp_lt (tgt := 11) hx hb dX1_dig_6 (by decide) (fun c_2 => ?_) (fun c_2 => ?_)
    · have tc_3 : (I 32 this).toInt < 30 := Int32.lt_iff_toInt_lt.mp c_2
      have h_4 : rg (I 32 this) 0 29 := rg_lt1 c_2 h_1 (rg_k (30 : Int32) 30 rfl) (by decide)
      have uh_4 := h_4.1
      have vh_4 := h_4.2
      refine lv_aload_n hx hb dX1_dig_11 rfl (lv_at hl 0 rfl) ?_
      refine pg_f (v := .ref this_cell) (C := RX1) (T := TX1) (N := 3) hx hb hts (tw_i inlX1) hown hK hP hL_this hK_this (by decide) rfl 1 (by decide) (hts _ (tw_c tw_137)) (pq_hv rfl hR_this_cell) dX1_dig_12 ?_
      refine lv_aload_n hx hb dX1_dig_15 rfl (lv_at hl 0 rfl) ?_
      refine pg_f (v := .int (I 32 this)) (C := RX1) (T := TX1) (N := 3) hx hb hts (tw_i inlX1) hown hK hP hL_this hK_this (by decide) rfl 0 (by decide) (hts _ (tw_c tw_1393)) rfl dX1_dig_16 ?_
      refine lv_iload_n hx hb dX1_dig_19 rfl (lv_at hl 1 rfl) ?_
      refine pt_i hx hb hK hP hD hS hL_this_cell hK_this_cell hN_this_cell (rg_in h_4 (by decide)) dX1_dig_20 (fun r_5 H locs er_5 hP hD hS => ?_)
      have hG := GX.wR hG hSH hT_this_cell rfl er_5 (rg_w h_a0 (by decide)) (by decide)
      refine lv_aload_n hx hb dX1_dig_21 rfl (lv_at hl 0 rfl) ?_
      obtain ⟨w_6, hR_w_6, hL_w_6, hK_w_6, hN_w_6, hT_w_6⟩ := sh_a hSH 34 (ci := 1) (kd := 14) (len := 30) rfl (by decide) hL_this hK_this
      refine pg_f (v := .ref w_6) (C := RX1) (T := TX1) (N := 3) hx hb hts (tw_i inlX1) hown hK hP hL_this hK_this (by decide) rfl 2 (by decide) (hts _ (tw_c tw_138)) (pq_hv rfl hR_w_6) dX1_dig_22 ?_
      refine lv_aload_n hx hb dX1_dig_25 rfl (lv_at hl 0 rfl) ?_
      refine pg_f (v := .int (I 32 this)) (C := RX1) (T := TX1) (N := 3) hx hb hts (tw_i inlX1) hown hK hP hL_this hK_this (by decide) rfl 0 (by decide) (hts _ (tw_c tw_1393)) rfl dX1_dig_26 ?_
      refine lv_lconst (v := 1) hx hb dX1_dig_29 (by decide) ?_
      refine lv_iload_n hx hb dX1_dig_30 rfl (lv_at hl 1 rfl) ?_
      refine lv_lshl hx hb dX1_dig_31 rfl ?_
      refine lv_topl (fun x_7 ex_7 => ?_)
      refine pt_l hx hb hK hP hD hS hL_w_6 hK_w_6 hN_w_6 (rg_in h_4 (by decide)) dX1_dig_32 (fun r_8 H locs er_8 hP hD hS => ?_)
      have hG := GX.wJ hG hT_w_6 er_8 (by decide)
      refine lv_aload_n hx hb dX1_dig_33 rfl (lv_at hl 0 rfl) ?_
      refine lv_dup hx hb dX1_dig_34 rfl ?_
      refine pg_f (v := .int (I 32 this)) (C := RX1) (T := TX1) (N := 3) hx hb hts (tw_i inlX1) hown hK hP hL_this hK_this (by decide) rfl 0 (by decide) (hts _ (tw_c tw_1393)) rfl dX1_dig_35 ?_
      refine lv_iconst (v := 1) hx hb dX1_dig_38 (by decide) ?_
      refine lv_iadd hx hb dX1_dig_39 ?_
      refine lv_topi (fun x_9 ex_9 => ?_)
      have h_10 : rg x_9 1 30 := rg_of_eq ex_9 (rg_add h_4 (rg_k (1 : Int32) 1 rfl) (by decide))
      have uh_10 := h_10.1
      have vh_10 := h_10.2
      have tx_9 : (x_9).toInt = (I 32 this).toInt + 1 := by rw [ex_9]; exact i_add_rg (a2 := (I 32 this).toInt) (b2 := 1) rfl rfl h_4 (rg_k (1 : Int32) 1 rfl) (by decide)
      refine pp_i (v := x_9) (ty := .int) (C := RX1) (T := TX1) (N := 3) hx hb hts (tw_i inlX1) tyX1 tyX1_ok nmX1 hown hK hP hD hS hL_this hK_this (by decide) rfl 0 32 (by decide) (hts _ (tw_c tw_1393)) rfl (tyX1_ok 0 (by decide)) rfl rfl (Nat.le_of_ble_eq_true rfl) (ps_32 _ _ _ _ _) dX1_dig_40 (fun I_11 H locs eI_11 hP hD hS => ?_)
      have hG := GX.wI hG 32 rfl eI_11 (rg_w h_10 (by decide)) (by decide)
      have tt_12 : (I_11 32 this).toInt = (x_9).toInt := by rw [eI_11, pq_us]
      refine lv_aload_n hx hb dX1_dig_43 rfl (lv_at hl 0 rfl) ?_
      refine pg_f (v := .int (I_11 32 this)) (C := RX1) (T := TX1) (N := 3) hx hb hts (tw_i inlX1) hown hK hP hL_this hK_this (by decide) rfl 0 (by decide) (hts _ (tw_c tw_1393)) rfl dX1_dig_44 ?_
      have h_13 : rg (I_11 32 this) 1 30 := (by rw [eI_11, pq_us]; exact h_10)
      have uh_13 := h_13.1
      have vh_13 := h_13.2
      refine lv_iconst (v := 1) hx hb dX1_dig_47 (by decide) ?_
      refine lv_isub hx hb dX1_dig_48 ?_
      refine lv_topi (fun x_14 ex_14 => ?_)
      have h_15 : rg x_14 0 29 := rg_of_eq ex_14 (rg_sub h_13 (rg_k (1 : Int32) 1 rfl) (by decide))
      have uh_15 := h_15.1
      have vh_15 := h_15.2
      have tx_14 : (x_14).toInt = (I_11 32 this).toInt - 1 := by rw [ex_14]; exact i_sub_rg (a2 := (I_11 32 this).toInt) (b2 := 1) rfl rfl h_13 (rg_k (1 : Int32) 1 rfl) (by decide)
      subst hQ
      exact W.iret (v := x_14) hx hb hr (fun t1 ht hW => ⟨⟨x_14, (σ, I_11, J, r_5, r_8, rq), rfl, ⟨I_11, r_5, r_8, rfl, hG, (by have k0 : (-1 : Int32).toInt = -1 := rfl; omega), (pu_t pu_rf (pu_p eI_11)), (Or.inl ⟨by omega, (rw1_w er_5)⟩), (rg_w h_15 (by decide))⟩, by rw [ht]; exact hP, va_K.moved hW.alike hK, hD⟩, hS.F ht⟩) hS.2.2 dX1_dig_49
    · have tc_16 : 30 ≤ (I 32 this).toInt := Int32.le_iff_toInt_le.mp (nlt c_2)
      have h_17 : rg (I 32 this) 30 30 := rg_le2 (nlt c_2) (rg_k (30 : Int32) 30 rfl) h_1 (by decide)
      have uh_17 := h_17.1
      have vh_17 := h_17.2
      refine lv_iconst (v := (-1)) hx hb dX1_dig_9 (by decide) ?_
      subst hQ
      exact W.iret (v := (-1)) hx hb hr (fun t1 ht hW => ⟨⟨(-1), (σ, I, J, ri, rj, rq), rfl, ⟨I, ri, rj, rfl, hG, (by have k0 : (-1 : Int32).toInt = -1 := rfl; omega), pu_rf, (Or.inr ⟨by omega, rid_rf⟩), (rg_w (rg_k (-1 : Int32) (-1) rfl) (by decide))⟩, by rw [ht]; exact hP, va_K.moved hW.alike hK, hD⟩, hS.F ht⟩) hS.2.2 dX1_dig_10
  exact go _ _ _ hP hD hS hl

set_option maxHeartbeats 4000000 in
set_option maxRecDepth 100000 in
theorem s_X11_grave_w (l : Launch) (D : va_G) (t : pq_T) (σ : pq_S) (I : Nat → Nat → Int32) (J : Nat → Nat → Int64) (ri : Nat → Nat → Int32) (rj : Nat → Nat → Int64) (rq : Nat → Nat → Option Nat) (sz : Nat) (tg : Nat → Nat) (hSH : SH σ tg) (hG0 : GS tg σ I ri rq) (this : Nat) (a0 : Int32) (hL_this : this ∈ σ.1) (hK_this : σ.2.1 this = 11) (this_now : Nat) (hR_this_now : σ.2.2.1 352 this = some this_now) (hL_this_now : this_now ∈ σ.1) (hK_this_now : σ.2.1 this_now = 10) (this_now_graves : Nat) (hR_this_now_graves : σ.2.2.1 330 this_now = some this_now_graves) (hL_this_now_graves : this_now_graves ∈ σ.1) (hK_this_now_graves : σ.2.1 this_now_graves = 1) (this_now_land : Nat) (hR_this_now_land : σ.2.2.1 327 this_now = some this_now_land) (hL_this_now_land : this_now_land ∈ σ.1) (hK_this_now_land : σ.2.1 this_now_land = 2) (this_cell : Nat) (hR_this_cell : σ.2.2.1 33 this_now_graves = some this_cell) (hL_this_cell : this_cell ∈ σ.1) (hK_this_cell : σ.2.1 this_cell = 13) (hN_this_cell : σ.2.2.2 this_cell = 30) (hT_this_cell : tg this_cell = 33) : MetI l yX11_grave (wa yX11_grave cX11_grave 2 (some .int)) ({ frames := 2, cells := 0, slots := 0, locals := 43 }) [.ref this, .int a0] D t σ (I, J, ri, rj, rq) sz 0 0 (fun (r : Int32) (u : pq_S × pq_M) => ∃ I' : Nat → Nat → Int32, ∃ ri' : Nat → Nat → Int32, ∃ rj' : Nat → Nat → Int64, u = (σ, I', J, ri', rj', rq) ∧ GX [1033, 1034, 32] tg σ I ri rj I' ri' rj' rq ∧ ((((0 ≤ a0.toInt ∧ a0.toInt < (I 65 this_now_land).toInt) ∧ (I 32 this_now_graves).toInt < 30) ∧ r.toInt = (I 32 this_now_graves).toInt ∧ (I' 32 this_now_graves).toInt = (I 32 this_now_graves).toInt + 1) ∨ (¬ ((0 ≤ a0.toInt ∧ a0.toInt < (I 65 this_now_land).toInt) ∧ (I 32 this_now_graves).toInt < 30) ∧ r.toInt = -1 ∧ (I' 32 this_now_graves).toInt = (I 32 this_now_graves).toInt)) ∧ (PU1 32 this_now_graves I I') ∧ ((((0 ≤ a0.toInt ∧ a0.toInt < (I 65 this_now_land).toInt) ∧ (I 32 this_now_graves).toInt < 30) ∧ RW1 tg 33 this_cell (I 32 this_now_graves).toNatClampNeg a0 ri ri') ∨ (¬ ((0 ≤ a0.toInt ∧ a0.toInt < (I 65 this_now_land).toInt) ∧ (I 32 this_now_graves).toInt < 30) ∧ RID tg 33 ri ri')) ∧ rg r (-1) 29) := by
  refine Met.ofW (cc := cX11_grave) (maxL := 2) (ret := (some .int)) (by decide) rfl ?_
  intro p e s m args below meth c s₁ B hml hv
  obtain ⟨rfl, hsz, hP, hK, hD0, hN⟩ := hv
  have hx := B.exec
  have hb := B.bytes
  have hr := B.returns
  have hts := atoms_spec (ws := (wa yX11_grave cX11_grave 2 (some .int))) B.pre
  have hown : s.vm.findClass RX11 = some m.cls := findClass_of_methodNamed B.named
  have hlocks := B.notSynchronized
  subst hsz
  have hD : va_D (pq_B t σ (I, J, ri, rj, rq) s.heap.size) (pq_P t σ (I, J, ri, rj, rq)) := hD0.self
  generalize hAe : pq_B t σ (I, J, ri, rj, rq) s.heap.size = A at hD ⊢
  have hA : ∀ q : Nat, s.heap.size ≤ q → A q := fun q h => by rw [← hAe]; exact Or.inr h
  have hS : va_S A s.heap s.heap [] := va_S.rf
  have hG : GX [1033, 1034, 32] tg σ I ri rj I ri rj rq := ⟨hG0, fun _ _ _ => rfl, fun _ _ _ _ _ => rfl, fun _ _ _ _ _ => rfl⟩
  have hl := lv_entry ([.ref this, .int a0]) (n := 2) (Nat.le_of_ble_eq_true rfl)
  rw [lg_entry_eq]
  generalize (lg_sl ([.ref this, .int a0]) ++ List.replicate (2 - (lg_sl ([.ref this, .int a0])).length) Slot.unset).toArray = ls at hl ⊢
  have hl : lv_has ls 2 [(0, .ref this), (1, .int a0)] := hl
  refine q_gen (fun Q hQ => ?_)
  have go : ∀ (H : Heap) (locs : List Loc) (ls : Array Slot), va_P D vwCl (pq_P t σ (I, J, ri, rj, rq)) H → va_D A (pq_P t σ (I, J, ri, rj, rq)) → va_S A s.heap H locs → lv_has ls 2 [(0, .ref this), (1, .int a0)] → W p l e ({ frames := 2, cells := 0, slots := 0, locals := 43 } : Room) s m (List.toArray ([.ref this, .int a0] : List Value)) below meth c H locs 0 0 Q (F0 m 0 ls []) := by
    intro H locs ls hP hD hS hl
    refine lv_aload_n hx hb dX11_grave_0 rfl (lv_at hl 0 rfl) ?_
    refine lv_iload_n hx hb dX11_grave_1 rfl (lv_at hl 1 rfl) ?_
    refine pk_i (va_runV (As := [.int a0]) (rest := []) ⟨hx, hb, hml, hown, hts⟩ (s_X11_isCell_w l D t σ I J ri rj rq H.size tg hSH hG.1 this a0 hL_this hK_this this_now hR_this_now hL_this_now hK_this_now this_now_land hR_this_now_land hL_this_now_land hK_this_now_land) (cwV 1 hts (tw_V tw_332 tw_333 tw_334 tw_2 tw_335) rfl rfl rfl cv_yX11_isCell_1 ⟨Nat.le_of_ble_eq_true rfl, Nat.le_of_ble_eq_true rfl⟩) ⟨pq_blind, pq_recv hK hP hL_this hK_this (by decide) rfl, pq_pre hK hN hP hD⟩ rfl rfl hl.1 rfl (lv_room (Nat.le_of_ble_eq_true rfl)) dX11_grave_2 ⟨Nat.le_of_ble_eq_true rfl, Nat.le_of_ble_eq_true rfl⟩) hD hS hA (fun x_1 σ1 μ1 H locs hw_2 hP hD hS => ?_)
    obtain ⟨hu_3, hr_5⟩ := hw_2
    obtain ⟨hu_3a, hu_3b⟩ := Prod.mk.inj hu_3
    rw [hu_3a, hu_3b] at hP hD
    have h_6 : rg x_1 0 1 := by rcases hr_5 with ⟨q, -⟩ | ⟨q, -⟩ <;> rw [q] <;> exact ⟨by decide, by decide⟩
    have uh_6 := h_6.1
    have vh_6 := h_6.2
    refine lv_if_eq (tgt := 23) hx hb dX11_grave_5 (by decide) (fun c_7 => ?_) (fun c_7 => ?_)
    · have f_8 := (hr_5.resolve_left (fun q => absurd (q.1.symm.trans c_7) (by decide))).2
      have tc_9 : (x_1).toInt = 0 := congrArg Int32.toInt c_7
      have h_10 : rg x_1 0 0 := rg_and h_6 (rg_of_eq c_7 (rg_k (0 : Int32) 0 rfl)) (by decide)
      have uh_10 := h_10.1
      have vh_10 := h_10.2
      refine lv_iconst (v := (-1)) hx hb dX11_grave_23 (by decide) ?_
      subst hQ
      exact W.iret (v := (-1)) hx hb hr (fun t1 ht hW => ⟨⟨(-1), (σ, I, J, ri, rj, rq), rfl, ⟨I, ri, rj, rfl, hG, (by have k0 : (-1 : Int32).toInt = -1 := rfl; omega), pu_rf, (Or.inr ⟨by omega, rid_rf⟩), (rg_w (rg_k (-1 : Int32) (-1) rfl) (by decide))⟩, by rw [ht]; exact hP, va_K.moved hW.alike hK, hD⟩, hS.F ht⟩) hS.2.2 dX11_grave_24
    · obtain ⟨f_11, f_12⟩ := (hr_5.resolve_right (fun q => c_7 q.1)).2
      have tc_13 : (x_1).toInt ≠ 0 := fun q => c_7 (Int32.toInt_inj.mp q)
      have h_14 : rg x_1 1 1 := rg_ne c_7 h_6 0 rfl (by decide)
      have uh_14 := h_14.1
      have vh_14 := h_14.2
      refine lv_aload_n hx hb dX11_grave_8 rfl (lv_at hl 0 rfl) ?_
      refine pg_f (v := .ref this_now) (C := RX11) (T := TX11) (N := 5) hx hb hts (tw_i inlX11) hown hK hP hL_this hK_this (by decide) rfl 0 (by decide) (hts _ (tw_c tw_16)) (pq_hv rfl hR_this_now) dX11_grave_9 ?_
      refine pg_f (v := .ref this_now_graves) (C := RX10) (T := TX10) (N := 13) hx hb hts (tw_i inlX10) hown hK hP hL_this_now hK_this_now (by decide) rfl 10 (by decide) (hts _ (tw_c tw_1499)) (pq_hv rfl hR_this_now_graves) dX11_grave_12 ?_
      refine pg_f (v := .int (I 32 this_now_graves)) (C := RX1) (T := TX1) (N := 3) hx hb hts (tw_i inlX1) hown hK hP hL_this_now_graves hK_this_now_graves (by decide) rfl 0 (by decide) (hts _ (tw_c tw_1500)) rfl dX11_grave_15 ?_
      have h_15 : rg (I 32 this_now_graves) 0 30 := GX.rI hG 32 rfl
      have uh_15 := h_15.1
      have vh_15 := h_15.2
      refine lv_bipush (v := 30) hx hb dX11_grave_18 (by decide) ?_
      refine lv_icmp_lt (tgt := 25) hx hb dX11_grave_20 (by decide) (fun c_16 => ?_) (fun c_16 => ?_)
      · have tc_17 : (I 32 this_now_graves).toInt < 30 := Int32.lt_iff_toInt_lt.mp c_16
        have h_18 : rg (I 32 this_now_graves) 0 29 := rg_lt1 c_16 h_15 (rg_k (30 : Int32) 30 rfl) (by decide)
        have uh_18 := h_18.1
        have vh_18 := h_18.2
        refine lv_aload_n hx hb dX11_grave_25 rfl (lv_at hl 0 rfl) ?_
        refine pg_f (v := .ref this_now) (C := RX11) (T := TX11) (N := 5) hx hb hts (tw_i inlX11) hown hK hP hL_this hK_this (by decide) rfl 0 (by decide) (hts _ (tw_c tw_16)) (pq_hv rfl hR_this_now) dX11_grave_26 ?_
        refine pg_f (v := .ref this_now_graves) (C := RX10) (T := TX10) (N := 13) hx hb hts (tw_i inlX10) hown hK hP hL_this_now hK_this_now (by decide) rfl 10 (by decide) (hts _ (tw_c tw_1499)) (pq_hv rfl hR_this_now_graves) dX11_grave_29 ?_
        refine lv_iload_n hx hb dX11_grave_32 rfl (lv_at hl 1 rfl) ?_
        refine pk_i (va_runV (As := [.int a0]) (rest := []) ⟨hx, hb, hml, hown, hts⟩ (s_X1_dig_w l D t σ I J ri rj rq H.size tg hSH hG.1 this_now_graves a0 hL_this_now_graves hK_this_now_graves (rg_w f_11 (by decide)) this_cell hR_this_cell hL_this_cell hK_this_cell hN_this_cell hT_this_cell) (cwV 1 hts (tw_V tw_1501 tw_1502 tw_1503 tw_53 tw_1504) rfl rfl rfl cv_yX1_dig_1 ⟨Nat.le_of_ble_eq_true rfl, Nat.le_of_ble_eq_true rfl⟩) ⟨pq_blind, pq_recv hK hP hL_this_now_graves hK_this_now_graves (by decide) rfl, pq_pre hK hN hP hD⟩ rfl rfl hl.1 rfl (lv_room (Nat.le_of_ble_eq_true rfl)) dX11_grave_33 ⟨Nat.le_of_ble_eq_true rfl, Nat.le_of_ble_eq_true rfl⟩) hD hS hA (fun x_19 σ1 μ1 H locs hw_20 hP hD hS => ?_)
        obtain ⟨I_21, ri_22, rj_23, hu_24, hg_25, hp_27, hp_28, hp_29, hr_26⟩ := hw_20
        obtain ⟨hu_24a, hu_24b⟩ := Prod.mk.inj hu_24
        rw [hu_24a, hu_24b] at hP hD
        have tt_30 := hp_27
        have hG := GX.tr hG hg_25 (by decide)
        subst hQ
        exact W.iret (v := x_19) hx hb hr (fun t1 ht hW => ⟨⟨x_19, (σ, I_21, J, ri_22, rj_23, rq), rfl, ⟨I_21, ri_22, rj_23, rfl, hG, (by have k0 : (-1 : Int32).toInt = -1 := rfl; omega), (pu_t pu_rf hp_28), (hp_29.elim (fun q => Or.inl ⟨by have q1 := q.1; omega, q.2⟩) (fun q => Or.inr ⟨by have q1 := q.1; omega, q.2⟩)), (rg_w hr_26 (by decide))⟩, by rw [ht]; exact hP, va_K.moved hW.alike hK, hD⟩, hS.F ht⟩) hS.2.2 dX11_grave_36
      · have tc_31 : 30 ≤ (I 32 this_now_graves).toInt := Int32.le_iff_toInt_le.mp (nlt c_16)
        have h_32 : rg (I 32 this_now_graves) 30 30 := rg_le2 (nlt c_16) (rg_k (30 : Int32) 30 rfl) h_15 (by decide)
        have uh_32 := h_32.1
        have vh_32 := h_32.2
        refine lv_iconst (v := (-1)) hx hb dX11_grave_23 (by decide) ?_
        subst hQ
        exact W.iret (v := (-1)) hx hb hr (fun t1 ht hW => ⟨⟨(-1), (σ, I, J, ri, rj, rq), rfl, ⟨I, ri, rj, rfl, hG, (by have k0 : (-1 : Int32).toInt = -1 := rfl; omega), pu_rf, (Or.inr ⟨by omega, rid_rf⟩), (rg_w (rg_k (-1 : Int32) (-1) rfl) (by decide))⟩, by rw [ht]; exact hP, va_K.moved hW.alike hK, hD⟩, hS.F ht⟩) hS.2.2 dX11_grave_24
  exact go _ _ _ hP hD hS hl

set_option maxHeartbeats 4000000 in
set_option maxRecDepth 100000 in
theorem s_X10_goBy_w (l : Launch) (D : va_G) (t : pq_T) (σ : pq_S) (I : Nat → Nat → Int32) (J : Nat → Nat → Int64) (ri : Nat → Nat → Int32) (rj : Nat → Nat → Int64) (rq : Nat → Nat → Option Nat) (sz : Nat) (tg : Nat → Nat) (hSH : SH σ tg) (hG0 : GS tg σ I ri rq) (this : Nat) (a0 : Int32) (hL_this : this ∈ σ.1) (hK_this : σ.2.1 this = 10) : MetV l yX10_goBy (wa yX10_goBy cX10_goBy 4 none) ({ frames := 5, cells := 0, slots := 0, locals := 143 }) [.ref this, .int a0] D t σ (I, J, ri, rj, rq) sz 0 0 (fun (u : pq_S × pq_M) => ∃ I' : Nat → Nat → Int32, ∃ J' : Nat → Nat → Int64, ∃ ri' : Nat → Nat → Int32, ∃ rj' : Nat → Nat → Int64, u = (σ, I', J', ri', rj', rq) ∧ GX [1074, 1073, 320, 1005] tg σ I ri rj I' ri' rj' rq ∧ ((I 320 this).toInt ≤ 599 → (I' 320 this).toInt = (I 320 this).toInt + 1) ∧ (FO σ this I I')) := by
  refine Met.ofW (cc := cX10_goBy) (maxL := 4) (ret := none) (by decide) rfl ?_
  intro p e s m args below meth c s₁ B hml hv
  obtain ⟨rfl, hsz, hP, hK, hD0, hN⟩ := hv
  have hx := B.exec
  have hb := B.bytes
  have hr := B.returns
  have hts := atoms_spec (ws := (wa yX10_goBy cX10_goBy 4 none)) B.pre
  have hown : s.vm.findClass RX10 = some m.cls := findClass_of_methodNamed B.named
  have hlocks := B.notSynchronized
  subst hsz
  have hD : va_D (pq_B t σ (I, J, ri, rj, rq) s.heap.size) (pq_P t σ (I, J, ri, rj, rq)) := hD0.self
  generalize hAe : pq_B t σ (I, J, ri, rj, rq) s.heap.size = A at hD ⊢
  have hA : ∀ q : Nat, s.heap.size ≤ q → A q := fun q h => by rw [← hAe]; exact Or.inr h
  have hS : va_S A s.heap s.heap [] := va_S.rf
  have hG : GX [1074, 1073, 320, 1005] tg σ I ri rj I ri rj rq := ⟨hG0, fun _ _ _ => rfl, fun _ _ _ _ _ => rfl, fun _ _ _ _ _ => rfl⟩
  have hl := lv_entry ([.ref this, .int a0]) (n := 4) (Nat.le_of_ble_eq_true rfl)
  rw [lg_entry_eq]
  generalize (lg_sl ([.ref this, .int a0]) ++ List.replicate (4 - (lg_sl ([.ref this, .int a0])).length) Slot.unset).toArray = ls at hl ⊢
  have hl : lv_has ls 4 [(0, .ref this), (1, .int a0)] := hl
  refine q_gen (fun Q hQ => ?_)
  have go : ∀ (H : Heap) (locs : List Loc) (ls : Array Slot), va_P D vwCl (pq_P t σ (I, J, ri, rj, rq)) H → va_D A (pq_P t σ (I, J, ri, rj, rq)) → va_S A s.heap H locs → lv_has ls 4 [(0, .ref this), (1, .int a0)] → W p l e ({ frames := 5, cells := 0, slots := 0, locals := 143 } : Room) s m (List.toArray ([.ref this, .int a0] : List Value)) below meth c H locs 0 0 Q (F0 m 0 ls []) := by
    intro H locs ls hP hD hS hl
    refine lv_aload_n hx hb dX10_goBy_0 rfl (lv_at hl 0 rfl) ?_
    refine pg_f (v := .int (I 320 this)) (C := RX10) (T := TX10) (N := 13) hx hb hts (tw_i inlX10) hown hK hP hL_this hK_this (by decide) rfl 0 (by decide) (hts _ (tw_c tw_457)) rfl dX10_goBy_1 ?_
    have h_1 : rg (I 320 this) 0 600 := GX.rI hG 320 rfl
    have uh_1 := h_1.1
    have vh_1 := h_1.2
    refine lv_sipush (v := 600) hx hb dX10_goBy_4 (by decide) ?_
    refine lv_icmp_lt (tgt := 11) hx hb dX10_goBy_7 (by decide) (fun c_2 => ?_) (fun c_2 => ?_)
    · have tc_3 : (I 320 this).toInt < 600 := Int32.lt_iff_toInt_lt.mp c_2
      have h_4 : rg (I 320 this) 0 599 := rg_lt1 c_2 h_1 (rg_k (600 : Int32) 600 rfl) (by decide)
      have uh_4 := h_4.1
      have vh_4 := h_4.2
      refine lv_aload_n hx hb dX10_goBy_11 rfl (lv_at hl 0 rfl) ?_
      refine lv_iload_n hx hb dX10_goBy_12 rfl (lv_at hl 1 rfl) ?_
      refine pk_v (va_runV (As := [.int a0]) (rest := []) ⟨hx, hb, hml, hown, hts⟩ (s_X10_nature l D t σ I J ri rj rq H.size tg hSH hG.1 this a0 hL_this hK_this) (cwV 1 hts (tw_V tw_1047 tw_1048 tw_1049 tw_15 tw_1050) rfl rfl rfl cv_yX10_nature_1 ⟨Nat.le_of_ble_eq_true rfl, Nat.le_of_ble_eq_true rfl⟩) ⟨pq_blind, pq_recv hK hP hL_this hK_this (by decide) rfl, pq_pre hK hN hP hD⟩ rfl rfl hl.1 rfl (lv_room (Nat.le_of_ble_eq_true rfl)) dX10_goBy_13 ⟨Nat.le_of_ble_eq_true rfl, Nat.le_of_ble_eq_true rfl⟩) hD hS hA (fun σ1 μ1 H locs hw_6 hP hD hS => ?_)
      obtain ⟨I_7, J_8, ri_9, rj_10, hu_11, hg_12⟩ := hw_6
      obtain ⟨hu_11a, hu_11b⟩ := Prod.mk.inj hu_11
      rw [hu_11a, hu_11b] at hP hD
      have hG := GX.tr hG hg_12 (by decide)
      have tt_14 : (I_7 320 this).toInt = (I 320 this).toInt := by rw [hg_12.2.1 320 (by decide) (by decide)]
      refine lv_aload_n hx hb dX10_goBy_16 rfl (lv_at hl 0 rfl) ?_
      obtain ⟨w_15, hR_w_15, hL_w_15, hK_w_15⟩ := sh_o hSH 327 (ci := 10) (kd := 2) rfl hL_this hK_this
      refine pg_f (v := .ref w_15) (C := RX10) (T := TX10) (N := 13) hx hb hts (tw_i inlX10) hown hK hP hL_this hK_this (by decide) rfl 7 (by decide) (hts _ (tw_c tw_42)) (pq_hv rfl hR_w_15) dX10_goBy_17 ?_
      obtain ⟨w_16, hR_w_16, hL_w_16, hK_w_16⟩ := sh_o hSH 78 (ci := 2) (kd := 9) rfl hL_w_15 hK_w_15
      refine pg_f (v := .ref w_16) (C := RX2) (T := TX2) (N := 20) hx hb hts (tw_i inlX2) hown hK hP hL_w_15 hK_w_15 (by decide) rfl 14 (by decide) (hts _ (tw_c tw_1043)) (pq_hv rfl hR_w_16) dX10_goBy_20 ?_
      refine lv_aload_n hx hb dX10_goBy_23 rfl (lv_at hl 0 rfl) ?_
      refine pg_f (v := .ref w_15) (C := RX10) (T := TX10) (N := 13) hx hb hts (tw_i inlX10) hown hK hP hL_this hK_this (by decide) rfl 7 (by decide) (hts _ (tw_c tw_42)) (pq_hv rfl hR_w_15) dX10_goBy_24 ?_
      refine pg_f (v := .int (I_7 65 w_15)) (C := RX2) (T := TX2) (N := 20) hx hb hts (tw_i inlX2) hown hK hP hL_w_15 hK_w_15 (by decide) rfl 1 (by decide) (hts _ (tw_c tw_498)) rfl dX10_goBy_27 ?_
      have h_17 : rg (I_7 65 w_15) 0 40 := GX.rI hG 65 rfl
      have uh_17 := h_17.1
      have vh_17 := h_17.2
      refine lv_aload_n hx hb dX10_goBy_30 rfl (lv_at hl 0 rfl) ?_
      refine pg_f (v := .ref w_15) (C := RX10) (T := TX10) (N := 13) hx hb hts (tw_i inlX10) hown hK hP hL_this hK_this (by decide) rfl 7 (by decide) (hts _ (tw_c tw_42)) (pq_hv rfl hR_w_15) dX10_goBy_31 ?_
      refine pg_f (v := .long (J_8 67 w_15)) (C := RX2) (T := TX2) (N := 20) hx hb hts (tw_i inlX2) hown hK hP hL_w_15 hK_w_15 (by decide) rfl 3 (by decide) (hts _ (tw_c tw_1044)) rfl dX10_goBy_34 ?_
      refine lv_aload_n hx hb dX10_goBy_37 rfl (lv_at hl 0 rfl) ?_
      obtain ⟨w_18, hR_w_18, hL_w_18, hK_w_18⟩ := sh_o hSH 326 (ci := 10) (kd := 7) rfl hL_this hK_this
      refine pg_f (v := .ref w_18) (C := RX10) (T := TX10) (N := 13) hx hb hts (tw_i inlX10) hown hK hP hL_this hK_this (by decide) rfl 6 (by decide) (hts _ (tw_c tw_38)) (pq_hv rfl hR_w_18) dX10_goBy_38 ?_
      obtain ⟨w_19, hR_w_19, hL_w_19, hK_w_19, hN_w_19, hT_w_19⟩ := sh_a hSH 233 (ci := 7) (kd := 13) (len := 12) rfl (by decide) hL_w_18 hK_w_18
      refine pg_f (v := .ref w_19) (C := RX7) (T := TX7) (N := 15) hx hb hts (tw_i inlX7) hown hK hP hL_w_18 hK_w_18 (by decide) rfl 9 (by decide) (hts _ (tw_c tw_1045)) (pq_hv rfl hR_w_19) dX10_goBy_41 ?_
      refine lv_aload_n hx hb dX10_goBy_44 rfl (lv_at hl 0 rfl) ?_
      refine pg_f (v := .int (I_7 320 this)) (C := RX10) (T := TX10) (N := 13) hx hb hts (tw_i inlX10) hown hK hP hL_this hK_this (by decide) rfl 0 (by decide) (hts _ (tw_c tw_457)) rfl dX10_goBy_45 ?_
      have h_20 : rg (I_7 320 this) 0 599 := (by rw [hg_12.2.1 320 (by decide) (by decide)]; exact h_4)
      have uh_20 := h_20.1
      have vh_20 := h_20.2
      refine lv_bipush (v := 12) hx hb dX10_goBy_48 (by decide) ?_
      refine lv_irem hx hb dX10_goBy_50 (by decide) ?_
      refine lv_topi (fun x_21 ex_21 => ?_)
      have h_22 : rg x_21 0 11 := rg_of_eq ex_21 (rg_rem h_20 rfl (by decide))
      have uh_22 := h_22.1
      have vh_22 := h_22.2
      refine pl_i hx hb hK hP hL_w_19 hK_w_19 hN_w_19 (rg_in h_22 (by decide)) dX10_goBy_51 ?_
      refine lv_topi (fun x_23 ex_23 => ?_)
      refine pk_v (va_runV (As := [.int (I_7 65 w_15), .long (J_8 67 w_15), .int x_23]) (rest := []) ⟨hx, hb, hml, hown, hts⟩ (s_X9_fillUp l D t σ I_7 J_8 ri_9 rj_10 rq H.size tg hSH hG.1 w_16 (I_7 65 w_15) (J_8 67 w_15) x_23 hL_w_16 hK_w_16 (rg_w h_17 (by decide))) (cwV 3 hts (tw_V tw_1083 tw_1084 tw_1085 tw_94 tw_1086) rfl rfl rfl cv_yX9_fillUp_3 ⟨Nat.le_of_ble_eq_true rfl, Nat.le_of_ble_eq_true rfl⟩) ⟨pq_blind, pq_recv hK hP hL_w_16 hK_w_16 (by decide) rfl, pq_pre hK hN hP hD⟩ rfl rfl hl.1 rfl (lv_room (Nat.le_of_ble_eq_true rfl)) dX10_goBy_52 ⟨Nat.le_of_ble_eq_true rfl, Nat.le_of_ble_eq_true rfl⟩) hD hS hA (fun σ1 μ1 H locs hw_25 hP hD hS => ?_)
      obtain ⟨ri_26, hu_27, hg_28⟩ := hw_25
      obtain ⟨hu_27a, hu_27b⟩ := Prod.mk.inj hu_27
      rw [hu_27a, hu_27b] at hP hD
      have hG := GX.tr hG hg_28 (by decide)
      refine lv_aload_n hx hb dX10_goBy_55 rfl (lv_at hl 0 rfl) ?_
      refine pg_f (v := .ref w_15) (C := RX10) (T := TX10) (N := 13) hx hb hts (tw_i inlX10) hown hK hP hL_this hK_this (by decide) rfl 7 (by decide) (hts _ (tw_c tw_42)) (pq_hv rfl hR_w_15) dX10_goBy_56 ?_
      refine lv_aload_n hx hb dX10_goBy_59 rfl (lv_at hl 0 rfl) ?_
      obtain ⟨w_30, hR_w_30, hL_w_30, hK_w_30, hN_w_30, hT_w_30⟩ := sh_a hSH 332 (ci := 10) (kd := 13) (len := 5) rfl (by decide) hL_this hK_this
      refine pg_f (v := .ref w_30) (C := RX10) (T := TX10) (N := 13) hx hb hts (tw_i inlX10) hown hK hP hL_this hK_this (by decide) rfl 12 (by decide) (hts _ (tw_c tw_56)) (pq_hv rfl hR_w_30) dX10_goBy_60 ?_
      refine lv_iconst (v := 0) hx hb dX10_goBy_63 (by decide) ?_
      refine pk_v (va_runV (As := [.ref w_30, .int 0]) (rest := []) ⟨hx, hb, hml, hown, hts⟩ (s_X2_countBeds_332 l D t σ I_7 J_8 ri_26 rj_10 rq H.size tg hSH hG.1 w_15 w_30 (0 : Int32) hL_w_15 hK_w_15 hL_w_30 hK_w_30 hN_w_30 hT_w_30 (rg_w (rg_k (0 : Int32) 0 rfl) (by decide))) (cwV 2 hts (tw_V tw_1090 tw_1091 tw_1092 tw_41 tw_1093) rfl rfl rfl cv_yX2_countBeds_2 ⟨Nat.le_of_ble_eq_true rfl, Nat.le_of_ble_eq_true rfl⟩) ⟨pq_blind, pq_recv hK hP hL_w_15 hK_w_15 (by decide) rfl, pq_pre hK hN hP hD⟩ rfl rfl hl.1 rfl (lv_room (Nat.le_of_ble_eq_true rfl)) dX10_goBy_64 ⟨Nat.le_of_ble_eq_true rfl, Nat.le_of_ble_eq_true rfl⟩) hD hS hA (fun σ1 μ1 H locs hw_32 hP hD hS => ?_)
      obtain ⟨ri_33, hu_34, hg_35⟩ := hw_32
      obtain ⟨hu_34a, hu_34b⟩ := Prod.mk.inj hu_34
      rw [hu_34a, hu_34b] at hP hD
      have hG := GX.tr hG hg_35 (by decide)
      refine lv_aload_n hx hb dX10_goBy_67 rfl (lv_at hl 0 rfl) ?_
      obtain ⟨w_37, hR_w_37, hL_w_37, hK_w_37⟩ := sh_o hSH 328 (ci := 10) (kd := 0) rfl hL_this hK_this
      refine pg_f (v := .ref w_37) (C := RX10) (T := TX10) (N := 13) hx hb hts (tw_i inlX10) hown hK hP hL_this hK_this (by decide) rfl 8 (by decide) (hts _ (tw_c tw_46)) (pq_hv rfl hR_w_37) dX10_goBy_68 ?_
      refine lv_aload_n hx hb dX10_goBy_71 rfl (lv_at hl 0 rfl) ?_
      refine pg_f (v := .ref w_15) (C := RX10) (T := TX10) (N := 13) hx hb hts (tw_i inlX10) hown hK hP hL_this hK_this (by decide) rfl 7 (by decide) (hts _ (tw_c tw_42)) (pq_hv rfl hR_w_15) dX10_goBy_72 ?_
      refine pk_i (va_runV (As := [.ref w_15]) (rest := []) ⟨hx, hb, hml, hown, hts⟩ (s_X0_drink l D t σ I_7 J_8 ri_33 rj_10 rq H.size tg hSH hG.1 w_37 w_15 hL_w_37 hK_w_37 hL_w_15 hK_w_15) (cwV 1 hts (tw_V tw_1094 tw_1095 tw_1096 tw_45 tw_1097) rfl rfl rfl cv_yX0_drink_1 ⟨Nat.le_of_ble_eq_true rfl, Nat.le_of_ble_eq_true rfl⟩) ⟨pq_blind, pq_recv hK hP hL_w_37 hK_w_37 (by decide) rfl, pq_pre hK hN hP hD⟩ rfl rfl hl.1 rfl (lv_room (Nat.le_of_ble_eq_true rfl)) dX10_goBy_75 ⟨Nat.le_of_ble_eq_true rfl, Nat.le_of_ble_eq_true rfl⟩) hD hS hA (fun x_38 σ1 μ1 H locs hw_39 hP hD hS => ?_)
      obtain ⟨ri_40, hu_41, hg_42⟩ := hw_39
      obtain ⟨hu_41a, hu_41b⟩ := Prod.mk.inj hu_41
      rw [hu_41a, hu_41b] at hP hD
      have hG := GX.tr hG hg_42 (by decide)
      refine lv_pop hx hb dX10_goBy_78 rfl ?_
      refine lv_aload_n hx hb dX10_goBy_79 rfl (lv_at hl 0 rfl) ?_
      refine pg_f (v := .ref w_37) (C := RX10) (T := TX10) (N := 13) hx hb hts (tw_i inlX10) hown hK hP hL_this hK_this (by decide) rfl 8 (by decide) (hts _ (tw_c tw_46)) (pq_hv rfl hR_w_37) dX10_goBy_80 ?_
      refine lv_aload_n hx hb dX10_goBy_83 rfl (lv_at hl 0 rfl) ?_
      refine pg_f (v := .ref w_30) (C := RX10) (T := TX10) (N := 13) hx hb hts (tw_i inlX10) hown hK hP hL_this hK_this (by decide) rfl 12 (by decide) (hts _ (tw_c tw_56)) (pq_hv rfl hR_w_30) dX10_goBy_84 ?_
      refine lv_iconst (v := 0) hx hb dX10_goBy_87 (by decide) ?_
      refine pk_i (va_runV (As := [.ref w_30, .int 0]) (rest := []) ⟨hx, hb, hml, hown, hts⟩ (s_X0_sleep_332 l D t σ I_7 J_8 ri_40 rj_10 rq H.size tg hSH hG.1 w_37 w_30 (0 : Int32) hL_w_37 hK_w_37 hL_w_30 hK_w_30 hN_w_30 hT_w_30 (rg_w (rg_k (0 : Int32) 0 rfl) (by decide))) (cwV 2 hts (tw_V tw_1120 tw_1121 tw_1122 tw_45 tw_1123) rfl rfl rfl cv_yX0_sleep_2 ⟨Nat.le_of_ble_eq_true rfl, Nat.le_of_ble_eq_true rfl⟩) ⟨pq_blind, pq_recv hK hP hL_w_37 hK_w_37 (by decide) rfl, pq_pre hK hN hP hD⟩ rfl rfl hl.1 rfl (lv_room (Nat.le_of_ble_eq_true rfl)) dX10_goBy_88 ⟨Nat.le_of_ble_eq_true rfl, Nat.le_of_ble_eq_true rfl⟩) hD hS hA (fun x_44 σ1 μ1 H locs hw_45 hP hD hS => ?_)
      obtain ⟨ri_46, hu_47, hg_48⟩ := hw_45
      obtain ⟨hu_47a, hu_47b⟩ := Prod.mk.inj hu_47
      rw [hu_47a, hu_47b] at hP hD
      have hG := GX.tr hG hg_48 (by decide)
      refine lv_pop hx hb dX10_goBy_91 rfl ?_
      refine lv_aload_n hx hb dX10_goBy_92 rfl (lv_at hl 0 rfl) ?_
      refine pk_v (va_runV (As := []) (rest := []) ⟨hx, hb, hml, hown, hts⟩ (s_X10_reckon l D t σ I_7 J_8 ri_46 rj_10 rq H.size tg hSH hG.1 this hL_this hK_this) (cwV 0 hts (tw_V tw_1125 tw_1126 tw_1127 tw_15 tw_1128) rfl rfl rfl cv_yX10_reckon_0 ⟨Nat.le_of_ble_eq_true rfl, Nat.le_of_ble_eq_true rfl⟩) ⟨pq_blind, pq_recv hK hP hL_this hK_this (by decide) rfl, pq_pre hK hN hP hD⟩ rfl rfl hl.1 rfl (lv_room (Nat.le_of_ble_eq_true rfl)) dX10_goBy_93 ⟨Nat.le_of_ble_eq_true rfl, Nat.le_of_ble_eq_true rfl⟩) hD hS hA (fun σ1 μ1 H locs hw_51 hP hD hS => ?_)
      obtain ⟨I_52, ri_53, hu_54, hg_55⟩ := hw_51
      obtain ⟨hu_54a, hu_54b⟩ := Prod.mk.inj hu_54
      rw [hu_54a, hu_54b] at hP hD
      have hG := GX.tr hG hg_55 (by decide)
      have tt_57 : (I_52 320 this).toInt = (I_7 320 this).toInt := by rw [hg_55.2.1 320 (by decide) (by decide)]
      refine lv_aload_n hx hb dX10_goBy_96 rfl (lv_at hl 0 rfl) ?_
      refine pg_f (v := .int (I_52 322 this)) (C := RX10) (T := TX10) (N := 13) hx hb hts (tw_i inlX10) hown hK hP hL_this hK_this (by decide) rfl 2 (by decide) (hts _ (tw_c tw_1046)) rfl dX10_goBy_97 ?_
      refine lv_if_le (tgt := 174) hx hb dX10_goBy_100 (by decide) (fun c_58 => ?_) (fun c_58 => ?_)
      · have tc_59 : (I_52 322 this).toInt ≤ 0 := Int32.le_iff_toInt_le.mp c_58
        have h_60 : rg (I_52 322 this) (-2147483648) 0 := rg_le1 c_58 (rg_full _) (rg_k (0 : Int32) 0 rfl) (by decide)
        have uh_60 := h_60.1
        have vh_60 := h_60.2
        refine lv_aload_n hx hb dX10_goBy_174 rfl (lv_at hl 0 rfl) ?_
        refine lv_dup hx hb dX10_goBy_175 rfl ?_
        refine pg_f (v := .int (I_52 320 this)) (C := RX10) (T := TX10) (N := 13) hx hb hts (tw_i inlX10) hown hK hP hL_this hK_this (by decide) rfl 0 (by decide) (hts _ (tw_c tw_457)) rfl dX10_goBy_176 ?_
        have h_61 : rg (I_52 320 this) 0 599 := (by rw [hg_55.2.1 320 (by decide) (by decide)]; exact h_20)
        have uh_61 := h_61.1
        have vh_61 := h_61.2
        refine lv_iconst (v := 1) hx hb dX10_goBy_179 (by decide) ?_
        refine lv_iadd hx hb dX10_goBy_180 ?_
        refine lv_topi (fun x_62 ex_62 => ?_)
        have h_63 : rg x_62 1 600 := rg_of_eq ex_62 (rg_add h_61 (rg_k (1 : Int32) 1 rfl) (by decide))
        have uh_63 := h_63.1
        have vh_63 := h_63.2
        have tx_62 : (x_62).toInt = (I_52 320 this).toInt + 1 := by rw [ex_62]; exact i_add_rg (a2 := (I_52 320 this).toInt) (b2 := 1) rfl rfl h_61 (rg_k (1 : Int32) 1 rfl) (by decide)
        refine pp_i (v := x_62) (ty := .int) (C := RX10) (T := TX10) (N := 13) hx hb hts (tw_i inlX10) tyX10 tyX10_ok nmX10 hown hK hP hD hS hL_this hK_this (by decide) rfl 0 320 (by decide) (hts _ (tw_c tw_457)) rfl (tyX10_ok 0 (by decide)) rfl rfl (Nat.le_of_ble_eq_true rfl) (ps_320 _ _ _ _ _) dX10_goBy_181 (fun I_64 H locs eI_64 hP hD hS => ?_)
        have hG := GX.wI hG 320 rfl eI_64 (rg_w h_63 (by decide)) (by decide)
        have tt_65 : (I_64 320 this).toInt = (x_62).toInt := by rw [eI_64, pq_us]
        subst hQ
        exact W.vret hx hb hr (fun t1 ht hW => ⟨⟨(σ, I_64, J_8, ri_53, rj_10, rq), rfl, ⟨I_64, J_8, ri_53, rj_10, rfl, hG, (fun _ => by omega), (fo_t (fo_t (fo_t fo_rf (fo_c hg_12 (by decide))) (fo_c hg_55 (by decide))) (fo_p eI_64))⟩, by rw [ht]; exact hP, va_K.moved hW.alike hK, hD⟩, hS.F ht⟩) hS.2.2 dX10_goBy_184
      · have tc_66 : 0 < (I_52 322 this).toInt := Int32.lt_iff_toInt_lt.mp (nle c_58)
        have h_67 : rg (I_52 322 this) 1 2147483647 := rg_lt2 (nle c_58) (rg_k (0 : Int32) 0 rfl) (rg_full _) (by decide)
        have uh_67 := h_67.1
        have vh_67 := h_67.2
        refine lv_aload_n hx hb dX10_goBy_103 rfl (lv_at hl 0 rfl) ?_
        obtain ⟨w_68, hR_w_68, hL_w_68, hK_w_68⟩ := sh_o hSH 329 (ci := 10) (kd := 3) rfl hL_this hK_this
        refine pg_f (v := .ref w_68) (C := RX10) (T := TX10) (N := 13) hx hb hts (tw_i inlX10) hown hK hP hL_this hK_this (by decide) rfl 9 (by decide) (hts _ (tw_c tw_50)) (pq_hv rfl hR_w_68) dX10_goBy_104 ?_
        refine lv_iconst (v := 4) hx hb dX10_goBy_107 (by decide) ?_
        refine lv_aload_n hx hb dX10_goBy_108 rfl (lv_at hl 0 rfl) ?_
        refine pg_f (v := .int (I_52 320 this)) (C := RX10) (T := TX10) (N := 13) hx hb hts (tw_i inlX10) hown hK hP hL_this hK_this (by decide) rfl 0 (by decide) (hts _ (tw_c tw_457)) rfl dX10_goBy_109 ?_
        have h_69 : rg (I_52 320 this) 0 599 := (by rw [hg_55.2.1 320 (by decide) (by decide)]; exact h_20)
        have uh_69 := h_69.1
        have vh_69 := h_69.2
        refine lv_aload_n hx hb dX10_goBy_112 rfl (lv_at hl 0 rfl) ?_
        refine pg_f (v := .ref w_37) (C := RX10) (T := TX10) (N := 13) hx hb hts (tw_i inlX10) hown hK hP hL_this hK_this (by decide) rfl 8 (by decide) (hts _ (tw_c tw_46)) (pq_hv rfl hR_w_37) dX10_goBy_113 ?_
        refine lv_aload_n hx hb dX10_goBy_116 rfl (lv_at hl 0 rfl) ?_
        obtain ⟨w_70, hR_w_70, hL_w_70, hK_w_70, hN_w_70, hT_w_70⟩ := sh_a hSH 331 (ci := 10) (kd := 13) (len := 40) rfl (by decide) hL_this hK_this
        refine pg_f (v := .ref w_70) (C := RX10) (T := TX10) (N := 13) hx hb hts (tw_i inlX10) hown hK hP hL_this hK_this (by decide) rfl 11 (by decide) (hts _ (tw_c tw_55)) (pq_hv rfl hR_w_70) dX10_goBy_117 ?_
        refine pk_v (va_runV (As := [.int 4, .int (I_52 320 this), .ref w_37, .ref w_70]) (rest := []) ⟨hx, hb, hml, hown, hts⟩ (s_X3_line_331 l D t σ I_52 J_8 ri_53 rj_10 rq H.size tg hSH hG.1 w_68 (4 : Int32) (I_52 320 this) w_37 w_70 hL_w_68 hK_w_68 hL_w_37 hK_w_37 hL_w_70 hK_w_70 hN_w_70 hT_w_70) (cwV 4 hts (tw_V tw_461 tw_462 tw_463 tw_49 tw_464) rfl rfl rfl cv_yX3_line_4 ⟨Nat.le_of_ble_eq_true rfl, Nat.le_of_ble_eq_true rfl⟩) ⟨pq_blind, pq_recv hK hP hL_w_68 hK_w_68 (by decide) rfl, pq_pre hK hN hP hD⟩ rfl rfl hl.1 rfl (lv_room (Nat.le_of_ble_eq_true rfl)) dX10_goBy_120 ⟨Nat.le_of_ble_eq_true rfl, Nat.le_of_ble_eq_true rfl⟩) hD hS hA (fun σ1 μ1 H locs hw_72 hP hD hS => ?_)
        obtain ⟨ri_73, hu_74, hg_75⟩ := hw_72
        obtain ⟨hu_74a, hu_74b⟩ := Prod.mk.inj hu_74
        rw [hu_74a, hu_74b] at hP hD
        have hG := GX.tr hG hg_75 (by decide)
        refine lv_aload_n hx hb dX10_goBy_123 rfl (lv_at hl 0 rfl) ?_
        refine pg_f (v := .ref w_68) (C := RX10) (T := TX10) (N := 13) hx hb hts (tw_i inlX10) hown hK hP hL_this hK_this (by decide) rfl 9 (by decide) (hts _ (tw_c tw_50)) (pq_hv rfl hR_w_68) dX10_goBy_124 ?_
        refine lv_iconst (v := 2) hx hb dX10_goBy_127 (by decide) ?_
        refine lv_aload_n hx hb dX10_goBy_128 rfl (lv_at hl 0 rfl) ?_
        refine pg_f (v := .int (I_52 320 this)) (C := RX10) (T := TX10) (N := 13) hx hb hts (tw_i inlX10) hown hK hP hL_this hK_this (by decide) rfl 0 (by decide) (hts _ (tw_c tw_457)) rfl dX10_goBy_129 ?_
        refine lv_aload_n hx hb dX10_goBy_132 rfl (lv_at hl 0 rfl) ?_
        refine pg_f (v := .ref w_37) (C := RX10) (T := TX10) (N := 13) hx hb hts (tw_i inlX10) hown hK hP hL_this hK_this (by decide) rfl 8 (by decide) (hts _ (tw_c tw_46)) (pq_hv rfl hR_w_37) dX10_goBy_133 ?_
        refine lv_aload_n hx hb dX10_goBy_136 rfl (lv_at hl 0 rfl) ?_
        refine pg_f (v := .ref w_37) (C := RX10) (T := TX10) (N := 13) hx hb hts (tw_i inlX10) hown hK hP hL_this hK_this (by decide) rfl 8 (by decide) (hts _ (tw_c tw_46)) (pq_hv rfl hR_w_37) dX10_goBy_137 ?_
        refine pk_l (va_runV (As := []) (rest := [.ref w_37, .int (I_52 320 this), .int 2, .ref w_68]) ⟨hx, hb, hml, hown, hts⟩ (s_X0_onRings l D t σ I_52 J_8 ri_73 rj_10 rq H.size tg hSH hG.1 w_37 hL_w_37 hK_w_37) (cwV 0 hts (tw_V tw_1162 tw_1163 tw_1164 tw_45 tw_1165) rfl rfl rfl cv_yX0_onRings_0 ⟨Nat.le_of_ble_eq_true rfl, Nat.le_of_ble_eq_true rfl⟩) ⟨pq_blind, pq_recv hK hP hL_w_37 hK_w_37 (by decide) rfl, pq_pre hK hN hP hD⟩ rfl rfl hl.1 rfl (lv_room (Nat.le_of_ble_eq_true rfl)) dX10_goBy_140 ⟨Nat.le_of_ble_eq_true rfl, Nat.le_of_ble_eq_true rfl⟩) hD hS hA (fun x_77 σ1 μ1 H locs hw_78 hP hD hS => ?_)
        have hu_79 := hw_78
        obtain ⟨hu_79a, hu_79b⟩ := Prod.mk.inj hu_79
        rw [hu_79a, hu_79b] at hP hD
        refine pk_l (va_runV (As := [.int 2, .int (I_52 320 this), .ref w_37, .long x_77]) (rest := []) ⟨hx, hb, hml, hown, hts⟩ (s_X3_whoIsSo l D t σ I_52 J_8 ri_73 rj_10 rq H.size tg hSH hG.1 w_68 (2 : Int32) (I_52 320 this) w_37 x_77 hL_w_68 hK_w_68 hL_w_37 hK_w_37) (cwV 4 hts (tw_V tw_1166 tw_964 tw_965 tw_49 tw_966) rfl rfl rfl cv_yX3_whoIsSo_4 ⟨Nat.le_of_ble_eq_true rfl, Nat.le_of_ble_eq_true rfl⟩) ⟨pq_blind, pq_recv hK hP hL_w_68 hK_w_68 (by decide) rfl, pq_pre hK hN hP hD⟩ rfl rfl hl.1 rfl (lv_room (Nat.le_of_ble_eq_true rfl)) dX10_goBy_143 ⟨Nat.le_of_ble_eq_true rfl, Nat.le_of_ble_eq_true rfl⟩) hD hS hA (fun x_82 σ1 μ1 H locs hw_83 hP hD hS => ?_)
        obtain ⟨ri_84, hu_85, hg_86⟩ := hw_83
        obtain ⟨hu_85a, hu_85b⟩ := Prod.mk.inj hu_85
        rw [hu_85a, hu_85b] at hP hD
        have hG := GX.tr hG hg_86 (by decide)
        refine lv_lstore_n (lv' := [(2, .long x_82), (0, .ref this), (1, .int a0)]) hx hb dX10_goBy_146 rfl hl (by decide) rfl (fun ls hl => ?_)
        refine lv_aload_n hx hb dX10_goBy_147 rfl (lv_at hl 1 rfl) ?_
        refine pg_f (v := .ref w_37) (C := RX10) (T := TX10) (N := 13) hx hb hts (tw_i inlX10) hown hK hP hL_this hK_this (by decide) rfl 8 (by decide) (hts _ (tw_c tw_46)) (pq_hv rfl hR_w_37) dX10_goBy_148 ?_
        refine lv_lload_n hx hb dX10_goBy_151 rfl (lv_at hl 0 rfl) ?_
        refine lv_aload_n hx hb dX10_goBy_152 rfl (lv_at hl 1 rfl) ?_
        refine pg_f (v := .ref w_70) (C := RX10) (T := TX10) (N := 13) hx hb hts (tw_i inlX10) hown hK hP hL_this hK_this (by decide) rfl 11 (by decide) (hts _ (tw_c tw_55)) (pq_hv rfl hR_w_70) dX10_goBy_153 ?_
        refine lv_aload_n hx hb dX10_goBy_156 rfl (lv_at hl 1 rfl) ?_
        refine pg_f (v := .ref w_37) (C := RX10) (T := TX10) (N := 13) hx hb hts (tw_i inlX10) hown hK hP hL_this hK_this (by decide) rfl 8 (by decide) (hts _ (tw_c tw_46)) (pq_hv rfl hR_w_37) dX10_goBy_157 ?_
        refine pg_f (v := .int (I_52 0 w_37)) (C := RX0) (T := TX0) (N := 16) hx hb hts (tw_i inlX0) hown hK hP hL_w_37 hK_w_37 (by decide) rfl 0 (by decide) (hts _ (tw_c tw_458)) rfl dX10_goBy_160 ?_
        have h_88 : rg (I_52 0 w_37) 0 40 := GX.rI hG 0 rfl
        have uh_88 := h_88.1
        have vh_88 := h_88.2
        refine lv_aload_n hx hb dX10_goBy_163 rfl (lv_at hl 1 rfl) ?_
        refine pg_f (v := .int (I_52 322 this)) (C := RX10) (T := TX10) (N := 13) hx hb hts (tw_i inlX10) hown hK hP hL_this hK_this (by decide) rfl 2 (by decide) (hts _ (tw_c tw_1046)) rfl dX10_goBy_164 ?_
        refine lv_aload_n hx hb dX10_goBy_167 rfl (lv_at hl 1 rfl) ?_
        refine pg_f (v := .int (I_52 320 this)) (C := RX10) (T := TX10) (N := 13) hx hb hts (tw_i inlX10) hown hK hP hL_this hK_this (by decide) rfl 0 (by decide) (hts _ (tw_c tw_457)) rfl dX10_goBy_168 ?_
        refine pk_v (va_runV (As := [.long x_82, .ref w_70, .int (I_52 0 w_37), .int (I_52 322 this), .int (I_52 320 this)]) (rest := []) ⟨hx, hb, hml, hown, hts⟩ (s_X0_board_331 l D t σ I_52 J_8 ri_84 rj_10 rq H.size tg hSH hG.1 w_37 x_82 w_70 (I_52 0 w_37) (I_52 322 this) (I_52 320 this) hL_w_37 hK_w_37 hL_w_70 hK_w_70 hN_w_70 hT_w_70) (cwV 5 hts (tw_V tw_1167 tw_1168 tw_1169 tw_45 tw_1170) rfl rfl rfl cv_yX0_board_5 ⟨Nat.le_of_ble_eq_true rfl, Nat.le_of_ble_eq_true rfl⟩) ⟨pq_blind, pq_recv hK hP hL_w_37 hK_w_37 (by decide) rfl, pq_pre hK hN hP hD⟩ rfl rfl hl.1 rfl (lv_room (Nat.le_of_ble_eq_true rfl)) dX10_goBy_171 ⟨Nat.le_of_ble_eq_true rfl, Nat.le_of_ble_eq_true rfl⟩) hD hS hA (fun σ1 μ1 H locs hw_90 hP hD hS => ?_)
        obtain ⟨ri_91, hu_92, hg_93⟩ := hw_90
        obtain ⟨hu_92a, hu_92b⟩ := Prod.mk.inj hu_92
        rw [hu_92a, hu_92b] at hP hD
        have hG := GX.tr hG hg_93 (by decide)
        refine lv_aload_n hx hb dX10_goBy_174 rfl (lv_at hl 1 rfl) ?_
        refine lv_dup hx hb dX10_goBy_175 rfl ?_
        refine pg_f (v := .int (I_52 320 this)) (C := RX10) (T := TX10) (N := 13) hx hb hts (tw_i inlX10) hown hK hP hL_this hK_this (by decide) rfl 0 (by decide) (hts _ (tw_c tw_457)) rfl dX10_goBy_176 ?_
        refine lv_iconst (v := 1) hx hb dX10_goBy_179 (by decide) ?_
        refine lv_iadd hx hb dX10_goBy_180 ?_
        refine lv_topi (fun x_95 ex_95 => ?_)
        have h_96 : rg x_95 1 600 := rg_of_eq ex_95 (rg_add h_69 (rg_k (1 : Int32) 1 rfl) (by decide))
        have uh_96 := h_96.1
        have vh_96 := h_96.2
        have tx_95 : (x_95).toInt = (I_52 320 this).toInt + 1 := by rw [ex_95]; exact i_add_rg (a2 := (I_52 320 this).toInt) (b2 := 1) rfl rfl h_69 (rg_k (1 : Int32) 1 rfl) (by decide)
        refine pp_i (v := x_95) (ty := .int) (C := RX10) (T := TX10) (N := 13) hx hb hts (tw_i inlX10) tyX10 tyX10_ok nmX10 hown hK hP hD hS hL_this hK_this (by decide) rfl 0 320 (by decide) (hts _ (tw_c tw_457)) rfl (tyX10_ok 0 (by decide)) rfl rfl (Nat.le_of_ble_eq_true rfl) (ps_320 _ _ _ _ _) dX10_goBy_181 (fun I_97 H locs eI_97 hP hD hS => ?_)
        have hG := GX.wI hG 320 rfl eI_97 (rg_w h_96 (by decide)) (by decide)
        have tt_98 : (I_97 320 this).toInt = (x_95).toInt := by rw [eI_97, pq_us]
        subst hQ
        exact W.vret hx hb hr (fun t1 ht hW => ⟨⟨(σ, I_97, J_8, ri_91, rj_10, rq), rfl, ⟨I_97, J_8, ri_91, rj_10, rfl, hG, (fun _ => by omega), (fo_t (fo_t (fo_t fo_rf (fo_c hg_12 (by decide))) (fo_c hg_55 (by decide))) (fo_p eI_97))⟩, by rw [ht]; exact hP, va_K.moved hW.alike hK, hD⟩, hS.F ht⟩) hS.2.2 dX10_goBy_184
    · have tc_99 : 600 ≤ (I 320 this).toInt := Int32.le_iff_toInt_le.mp (nlt c_2)
      have h_100 : rg (I 320 this) 600 600 := rg_le2 (nlt c_2) (rg_k (600 : Int32) 600 rfl) h_1 (by decide)
      have uh_100 := h_100.1
      have vh_100 := h_100.2
      subst hQ
      exact W.vret hx hb hr (fun t1 ht hW => ⟨⟨(σ, I, J, ri, rj, rq), rfl, ⟨I, J, ri, rj, rfl, hG, (fun _ => by omega), fo_rf⟩, by rw [ht]; exact hP, va_K.moved hW.alike hK, hD⟩, hS.F ht⟩) hS.2.2 dX10_goBy_10
  exact go _ _ _ hP hD hS hl

set_option maxHeartbeats 4000000 in
set_option maxRecDepth 100000 in
theorem s_X11_months_w (l : Launch) (D : va_G) (t : pq_T) (σ : pq_S) (I : Nat → Nat → Int32) (J : Nat → Nat → Int64) (ri : Nat → Nat → Int32) (rj : Nat → Nat → Int64) (rq : Nat → Nat → Option Nat) (sz : Nat) (tg : Nat → Nat) (hSH : SH σ tg) (hG0 : GS tg σ I ri rq) (this : Nat) (a0 : Int32) (a1 : Int32) (hL_this : this ∈ σ.1) (hK_this : σ.2.1 this = 11) (this_now : Nat) (hR_this_now : σ.2.2.1 352 this = some this_now) (hL_this_now : this_now ∈ σ.1) (hK_this_now : σ.2.1 this_now = 10) : MetI l yX11_months (wa yX11_months cX11_months 4 (some .int)) ({ frames := 6, cells := 0, slots := 0, locals := 166 }) [.ref this, .int a0, .int a1] D t σ (I, J, ri, rj, rq) sz 0 0 (fun (r : Int32) (u : pq_S × pq_M) => ∃ I' : Nat → Nat → Int32, ∃ J' : Nat → Nat → Int64, ∃ ri' : Nat → Nat → Int32, ∃ rj' : Nat → Nat → Int64, u = (σ, I', J', ri', rj', rq) ∧ GX [1074, 1073, 320, 1005] tg σ I ri rj I' ri' rj' rq ∧ ((((0 ≤ a1.toInt ∧ a1.toInt ≤ 2) ∧ (1 ≤ a0.toInt ∧ a0.toInt ≤ 60) ∧ (I 320 this_now).toInt + a0.toInt ≤ 600) ∧ r.toInt = (I 320 this_now).toInt + a0.toInt ∧ (I' 320 this_now).toInt = (I 320 this_now).toInt + a0.toInt) ∨ (¬ ((0 ≤ a1.toInt ∧ a1.toInt ≤ 2) ∧ (1 ≤ a0.toInt ∧ a0.toInt ≤ 60) ∧ (I 320 this_now).toInt + a0.toInt ≤ 600) ∧ r.toInt = -1 ∧ (I' 320 this_now).toInt = (I 320 this_now).toInt)) ∧ (FO σ this_now I I') ∧ rg r (-1) 600) := by
  refine Met.ofW (cc := cX11_months) (maxL := 4) (ret := (some .int)) (by decide) rfl ?_
  intro p e s m args below meth c s₁ B hml hv
  obtain ⟨rfl, hsz, hP, hK, hD0, hN⟩ := hv
  have hx := B.exec
  have hb := B.bytes
  have hr := B.returns
  have hts := atoms_spec (ws := (wa yX11_months cX11_months 4 (some .int))) B.pre
  have hown : s.vm.findClass RX11 = some m.cls := findClass_of_methodNamed B.named
  have hlocks := B.notSynchronized
  subst hsz
  have hD : va_D (pq_B t σ (I, J, ri, rj, rq) s.heap.size) (pq_P t σ (I, J, ri, rj, rq)) := hD0.self
  generalize hAe : pq_B t σ (I, J, ri, rj, rq) s.heap.size = A at hD ⊢
  have hA : ∀ q : Nat, s.heap.size ≤ q → A q := fun q h => by rw [← hAe]; exact Or.inr h
  have hS : va_S A s.heap s.heap [] := va_S.rf
  have hG : GX [1074, 1073, 320, 1005] tg σ I ri rj I ri rj rq := ⟨hG0, fun _ _ _ => rfl, fun _ _ _ _ _ => rfl, fun _ _ _ _ _ => rfl⟩
  have hl := lv_entry ([.ref this, .int a0, .int a1]) (n := 4) (Nat.le_of_ble_eq_true rfl)
  rw [lg_entry_eq]
  generalize (lg_sl ([.ref this, .int a0, .int a1]) ++ List.replicate (4 - (lg_sl ([.ref this, .int a0, .int a1])).length) Slot.unset).toArray = ls at hl ⊢
  have hl : lv_has ls 4 [(0, .ref this), (1, .int a0), (2, .int a1)] := hl
  refine q_gen (fun Q hQ => ?_)
  have go : ∀ (H : Heap) (locs : List Loc) (ls : Array Slot), va_P D vwCl (pq_P t σ (I, J, ri, rj, rq)) H → va_D A (pq_P t σ (I, J, ri, rj, rq)) → va_S A s.heap H locs → lv_has ls 4 [(0, .ref this), (1, .int a0), (2, .int a1)] → W p l e ({ frames := 6, cells := 0, slots := 0, locals := 166 } : Room) s m (List.toArray ([.ref this, .int a0, .int a1] : List Value)) below meth c H locs 0 0 Q (F0 m 0 ls []) := by
    intro H locs ls hP hD hS hl
    refine lv_aload_n hx hb dX11_months_0 rfl (lv_at hl 0 rfl) ?_
    refine lv_iload_n hx hb dX11_months_1 rfl (lv_at hl 2 rfl) ?_
    refine lv_iload_n hx hb dX11_months_2 rfl (lv_at hl 1 rfl) ?_
    refine lv_bipush (v := 60) hx hb dX11_months_3 (by decide) ?_
    refine pk_i (va_runV (As := [.int a1, .int a0, .int 60]) (rest := []) ⟨hx, hb, hml, hown, hts⟩ (s_X11_canGoBy_w l D t σ I J ri rj rq H.size tg hSH hG.1 this a1 a0 (60 : Int32) hL_this hK_this (rg_w (rg_k (60 : Int32) 60 rfl) (by decide)) this_now hR_this_now hL_this_now hK_this_now) (cwV 3 hts (tw_V tw_1035 tw_1036 tw_1037 tw_2 tw_1038) rfl rfl rfl cv_yX11_canGoBy_3 ⟨Nat.le_of_ble_eq_true rfl, Nat.le_of_ble_eq_true rfl⟩) ⟨pq_blind, pq_recv hK hP hL_this hK_this (by decide) rfl, pq_pre hK hN hP hD⟩ rfl rfl hl.1 rfl (lv_room (Nat.le_of_ble_eq_true rfl)) dX11_months_5 ⟨Nat.le_of_ble_eq_true rfl, Nat.le_of_ble_eq_true rfl⟩) hD hS hA (fun x_1 σ1 μ1 H locs hw_2 hP hD hS => ?_)
    obtain ⟨hu_3, hr_5⟩ := hw_2
    obtain ⟨hu_3a, hu_3b⟩ := Prod.mk.inj hu_3
    rw [hu_3a, hu_3b] at hP hD
    have h_6 : rg x_1 0 1 := by rcases hr_5 with ⟨q, -⟩ | ⟨q, -⟩ <;> rw [q] <;> exact ⟨by decide, by decide⟩
    have uh_6 := h_6.1
    have vh_6 := h_6.2
    refine lv_if_ne (tgt := 13) hx hb dX11_months_8 (by decide) (fun c_7 => ?_) (fun c_7 => ?_)
    · obtain ⟨f_8, f_9, f_10⟩ := (hr_5.resolve_right (fun q => c_7 q.1)).2
      have zk_11 : (60 : Int32).toInt = 60 := rfl
      have tc_12 : (x_1).toInt ≠ 0 := fun q => c_7 (Int32.toInt_inj.mp q)
      have h_13 : rg x_1 1 1 := rg_ne c_7 h_6 0 rfl (by decide)
      have uh_13 := h_13.1
      have vh_13 := h_13.2
      refine lv_iconst (v := 0) hx hb dX11_months_13 (by decide) ?_
      refine lv_istore_n (lv' := [(3, .int 0), (0, .ref this), (1, .int a0), (2, .int a1)]) hx hb dX11_months_14 rfl hl (by decide) rfl (fun ls hl => ?_)
      have L_424 : ∀ (n_423 : Nat) (x_394 : Int32) (I_395 : Nat → Nat → Int32) (J_396 : Nat → Nat → Int64) (ri_397 : Nat → Nat → Int32) (rj_398 : Nat → Nat → Int64) (H : Heap) (locs : List Loc) (ls : Array Slot), rg x_394 0 60 → (FO σ this_now I I_395) → ((I_395 320 this_now).toInt = (I 320 this_now).toInt + (x_394).toInt ∧ 0 ≤ (x_394).toInt ∧ (x_394).toInt ≤ a0.toInt) → (60 - (x_394).toInt).toNat < n_423 → GX [1074, 1073, 320, 1005] tg σ I ri rj I_395 ri_397 rj_398 rq → va_P D vwCl (pq_P t σ (I_395, J_396, ri_397, rj_398, rq)) H → va_D A (pq_P t σ (I_395, J_396, ri_397, rj_398, rq)) → va_S A s.heap H locs → lv_has ls 4 [(0, .ref this), (1, .int a0), (2, .int a1), (3, .int x_394)] → W p l e ({ frames := 6, cells := 0, slots := 0, locals := 166 } : Room) s m (List.toArray ([.ref this, .int a0, .int a1] : List Value)) below meth c H locs 0 0 Q (F0 m 15 ls []) := by
        intro n_423
        induction n_423 with
        | zero => intro x_394 I_395 J_396 ri_397 rj_398 H locs ls h_429 hrel_430 hrel_431 hm_422 hG hP hD hS hl; exact absurd hm_422 (Nat.not_lt_zero _)
        | succ n_423 ih_425 =>
          intro x_394 I_395 J_396 ri_397 rj_398 H locs ls h_429 hrel_430 hrel_431 hm_422 hG hP hD hS hl
          have uh_429 := h_429.1
          have vh_429 := h_429.2
          refine lv_iload_n hx hb dX11_months_15 rfl (lv_at hl 3 rfl) ?_
          refine lv_iload_n hx hb dX11_months_16 rfl (lv_at hl 1 rfl) ?_
          refine lv_icmp_ge (tgt := 34) hx hb dX11_months_17 (by decide) (fun c_432 => ?_) (fun c_432 => ?_)
          · have tc_433 : (a0).toInt ≤ (x_394).toInt := Int32.le_iff_toInt_le.mp c_432
            have h_434 : rg x_394 1 60 := rg_le2 c_432 f_9 h_429 (by decide)
            have uh_434 := h_434.1
            have vh_434 := h_434.2
            refine lv_aload_n hx hb dX11_months_34 rfl (lv_at hl 0 rfl) ?_
            refine pg_f (v := .ref this_now) (C := RX11) (T := TX11) (N := 5) hx hb hts (tw_i inlX11) hown hK hP hL_this hK_this (by decide) rfl 0 (by decide) (hts _ (tw_c tw_16)) (pq_hv rfl hR_this_now) dX11_months_35 ?_
            refine pg_f (v := .int (I_395 320 this_now)) (C := RX10) (T := TX10) (N := 13) hx hb hts (tw_i inlX10) hown hK hP hL_this_now hK_this_now (by decide) rfl 0 (by decide) (hts _ (tw_c tw_209)) rfl dX11_months_38 ?_
            have h_435 : rg (I_395 320 this_now) 0 600 := GX.rI hG 320 rfl
            have uh_435 := h_435.1
            have vh_435 := h_435.2
            subst hQ
            exact W.iret (v := (I_395 320 this_now)) hx hb hr (fun t1 ht hW => ⟨⟨(I_395 320 this_now), (σ, I_395, J_396, ri_397, rj_398, rq), rfl, ⟨I_395, J_396, ri_397, rj_398, rfl, hG, (by have k0 : (-1 : Int32).toInt = -1 := rfl; omega), hrel_430, (rg_w h_435 (by decide))⟩, by rw [ht]; exact hP, va_K.moved hW.alike hK, hD⟩, hS.F ht⟩) hS.2.2 dX11_months_41
          · have tc_436 : (x_394).toInt < (a0).toInt := Int32.lt_iff_toInt_lt.mp (nle c_432)
            have h_437 : rg x_394 0 59 := rg_lt1 (nle c_432) h_429 f_9 (by decide)
            have uh_437 := h_437.1
            have vh_437 := h_437.2
            refine lv_aload_n hx hb dX11_months_20 rfl (lv_at hl 0 rfl) ?_
            refine pg_f (v := .ref this_now) (C := RX11) (T := TX11) (N := 5) hx hb hts (tw_i inlX11) hown hK hP hL_this hK_this (by decide) rfl 0 (by decide) (hts _ (tw_c tw_16)) (pq_hv rfl hR_this_now) dX11_months_21 ?_
            refine lv_iload_n hx hb dX11_months_24 rfl (lv_at hl 2 rfl) ?_
            refine pk_v (va_runV (As := [.int a1]) (rest := []) ⟨hx, hb, hml, hown, hts⟩ (s_X10_goBy_w l D t σ I_395 J_396 ri_397 rj_398 rq H.size tg hSH hG.1 this_now a1 hL_this_now hK_this_now) (cwV 1 hts (tw_V tw_1039 tw_1040 tw_1041 tw_15 tw_1042) rfl rfl rfl cv_yX10_goBy_1 ⟨Nat.le_of_ble_eq_true rfl, Nat.le_of_ble_eq_true rfl⟩) ⟨pq_blind, pq_recv hK hP hL_this_now hK_this_now (by decide) rfl, pq_pre hK hN hP hD⟩ rfl rfl hl.1 rfl (lv_room (Nat.le_of_ble_eq_true rfl)) dX11_months_25 ⟨Nat.le_of_ble_eq_true rfl, Nat.le_of_ble_eq_true rfl⟩) hD hS hA (fun σ1 μ1 H locs hw_439 hP hD hS => ?_)
            obtain ⟨I_440, J_441, ri_442, rj_443, hu_444, hg_445, hp_447, hp_448⟩ := hw_439
            obtain ⟨hu_444a, hu_444b⟩ := Prod.mk.inj hu_444
            rw [hu_444a, hu_444b] at hP hD
            have tt_449 := hp_447
            have hG := GX.tr hG hg_445 (by decide)
            obtain ⟨x_450, ex_450⟩ : ∃ y : Int32, y = x_394 + Int32.ofInt 1 := ⟨_, rfl⟩
            have h_451 : rg x_450 1 60 := rg_of_eq ex_450 (rg_add h_437 (rg_k (Int32.ofInt 1) 1 rfl) (by decide))
            have uh_451 := h_451.1
            have vh_451 := h_451.2
            have tx_450 : (x_450).toInt = (x_394).toInt + 1 := by rw [ex_450]; exact i_add_rg (a2 := (x_394).toInt) (b2 := 1) rfl rfl h_437 (rg_k (Int32.ofInt 1) 1 rfl) (by decide)
            refine lv_iinc (v := x_450) (lv' := [(3, .int x_450), (0, .ref this), (1, .int a0), (2, .int a1)]) hx hb dX11_months_28 hl (k := 3) rfl ex_450.symm (by decide) rfl (fun ls hl => ?_)
            refine lv_goto (tgt := 15) hx hb dX11_months_31 (by decide) ?_
            exact ih_425 x_450 I_440 J_441 ri_442 rj_443 _ _ _ (rg_w h_451 (by decide)) (fo_t hrel_430 hp_448) (by omega) (ms_up 1 hm_422 ex_450 rfl (by decide) h_437 (by decide) (by decide)) hG hP hD hS (lv_sub hl [1, 2, 3, 0] rfl)
      exact L_424 _ (0 : Int32) I J ri rj _ _ _ (rg_w (rg_k (0 : Int32) 0 rfl) (by decide)) fo_rf (by have k0 : (0 : Int32).toInt = 0 := rfl; omega) (Nat.lt_succ_self _) hG hP hD hS (lv_sub hl [1, 2, 3, 0] rfl)
    · have f_452 := (hr_5.resolve_left (fun q => absurd (q.1.symm.trans c_7) (by decide))).2
      have zk_453 : (60 : Int32).toInt = 60 := rfl
      have tc_454 : (x_1).toInt = 0 := congrArg Int32.toInt c_7
      have h_455 : rg x_1 0 0 := rg_and h_6 (rg_of_eq c_7 (rg_k (0 : Int32) 0 rfl)) (by decide)
      have uh_455 := h_455.1
      have vh_455 := h_455.2
      refine lv_iconst (v := (-1)) hx hb dX11_months_11 (by decide) ?_
      subst hQ
      exact W.iret (v := (-1)) hx hb hr (fun t1 ht hW => ⟨⟨(-1), (σ, I, J, ri, rj, rq), rfl, ⟨I, J, ri, rj, rfl, hG, (by have k0 : (-1 : Int32).toInt = -1 := rfl; omega), fo_rf, (rg_w (rg_k (-1 : Int32) (-1) rfl) (by decide))⟩, by rw [ht]; exact hP, va_K.moved hW.alike hK, hD⟩, hS.F ht⟩) hS.2.2 dX11_months_12
  exact go _ _ _ hP hD hS hl

set_option maxHeartbeats 4000000 in
set_option maxRecDepth 100000 in
theorem s_X9_dig_w (l : Launch) (D : va_G) (t : pq_T) (σ : pq_S) (I : Nat → Nat → Int32) (J : Nat → Nat → Int64) (ri : Nat → Nat → Int32) (rj : Nat → Nat → Int64) (rq : Nat → Nat → Option Nat) (sz : Nat) (tg : Nat → Nat) (hSH : SH σ tg) (hG0 : GS tg σ I ri rq) (this : Nat) (a0 : Int32) (a1 : Int32) (a2 : Int32) (a3 : Int32) (hL_this : this ∈ σ.1) (hK_this : σ.2.1 this = 9) (h_a0 : rg a0 0 39) (this_gathers : Nat) (hR_this_gathers : σ.2.2.1 288 this = some this_gathers) (hL_this_gathers : this_gathers ∈ σ.1) (hK_this_gathers : σ.2.1 this_gathers = 13) (hN_this_gathers : σ.2.2.2 this_gathers = 40) (hT_this_gathers : tg this_gathers = 288) : MetV l yX9_dig (wa yX9_dig cX9_dig 5 none) ({ frames := 0, cells := 0, slots := 0, locals := 0 }) [.ref this, .int a0, .int a1, .int a2, .int a3] D t σ (I, J, ri, rj, rq) sz 0 0 (fun (u : pq_S × pq_M) => ∃ ri' : Nat → Nat → Int32, u = (σ, I, J, ri', rj, rq) ∧ GX [1288] tg σ I ri rj I ri' rj rq ∧ (RW1 tg 288 this_gathers (a0).toNatClampNeg a1 ri ri')) := by
  refine Met.ofW (cc := cX9_dig) (maxL := 5) (ret := none) (by decide) rfl ?_
  intro p e s m args below meth c s₁ B hml hv
  obtain ⟨rfl, hsz, hP, hK, hD0, hN⟩ := hv
  have hx := B.exec
  have hb := B.bytes
  have hr := B.returns
  have hts := atoms_spec (ws := (wa yX9_dig cX9_dig 5 none)) B.pre
  have hown : s.vm.findClass RX9 = some m.cls := findClass_of_methodNamed B.named
  have hlocks := B.notSynchronized
  subst hsz
  have hD : va_D (pq_B t σ (I, J, ri, rj, rq) s.heap.size) (pq_P t σ (I, J, ri, rj, rq)) := hD0.self
  generalize hAe : pq_B t σ (I, J, ri, rj, rq) s.heap.size = A at hD ⊢
  have hA : ∀ q : Nat, s.heap.size ≤ q → A q := fun q h => by rw [← hAe]; exact Or.inr h
  have hS : va_S A s.heap s.heap [] := va_S.rf
  have hG : GX [1288] tg σ I ri rj I ri rj rq := ⟨hG0, fun _ _ _ => rfl, fun _ _ _ _ _ => rfl, fun _ _ _ _ _ => rfl⟩
  have hl := lv_entry ([.ref this, .int a0, .int a1, .int a2, .int a3]) (n := 5) (Nat.le_of_ble_eq_true rfl)
  rw [lg_entry_eq]
  generalize (lg_sl ([.ref this, .int a0, .int a1, .int a2, .int a3]) ++ List.replicate (5 - (lg_sl ([.ref this, .int a0, .int a1, .int a2, .int a3])).length) Slot.unset).toArray = ls at hl ⊢
  have hl : lv_has ls 5 [(0, .ref this), (1, .int a0), (2, .int a1), (3, .int a2), (4, .int a3)] := hl
  refine q_gen (fun Q hQ => ?_)
  have go : ∀ (H : Heap) (locs : List Loc) (ls : Array Slot), va_P D vwCl (pq_P t σ (I, J, ri, rj, rq)) H → va_D A (pq_P t σ (I, J, ri, rj, rq)) → va_S A s.heap H locs → lv_has ls 5 [(0, .ref this), (1, .int a0), (2, .int a1), (3, .int a2), (4, .int a3)] → W p l e ({ frames := 0, cells := 0, slots := 0, locals := 0 } : Room) s m (List.toArray ([.ref this, .int a0, .int a1, .int a2, .int a3] : List Value)) below meth c H locs 0 0 Q (F0 m 0 ls []) := by
    intro H locs ls hP hD hS hl
    refine lv_aload_n hx hb dX9_dig_0 rfl (lv_at hl 0 rfl) ?_
    refine pg_f (v := .ref this_gathers) (C := RX9) (T := TX9) (N := 3) hx hb hts (tw_i inlX9) hown hK hP hL_this hK_this (by decide) rfl 0 (by decide) (hts _ (tw_c tw_104)) (pq_hv rfl hR_this_gathers) dX9_dig_1 ?_
    refine lv_iload_n hx hb dX9_dig_4 rfl (lv_at hl 1 rfl) ?_
    refine lv_iload_n hx hb dX9_dig_5 rfl (lv_at hl 2 rfl) ?_
    refine pt_i hx hb hK hP hD hS hL_this_gathers hK_this_gathers hN_this_gathers (rg_in h_a0 (by decide)) dX9_dig_6 (fun r_1 H locs er_1 hP hD hS => ?_)
    have hG := GX.wR hG hSH hT_this_gathers rfl er_1 (rg_w (rg_full _) (by decide)) (by decide)
    refine lv_aload_n hx hb dX9_dig_7 rfl (lv_at hl 0 rfl) ?_
    obtain ⟨w_2, hR_w_2, hL_w_2, hK_w_2, hN_w_2, hT_w_2⟩ := sh_a hSH 289 (ci := 9) (kd := 13) (len := 40) rfl (by decide) hL_this hK_this
    refine pg_f (v := .ref w_2) (C := RX9) (T := TX9) (N := 3) hx hb hts (tw_i inlX9) hown hK hP hL_this hK_this (by decide) rfl 1 (by decide) (hts _ (tw_c tw_105)) (pq_hv rfl hR_w_2) dX9_dig_8 ?_
    refine lv_iload_n hx hb dX9_dig_11 rfl (lv_at hl 1 rfl) ?_
    refine lv_iload_n hx hb dX9_dig_12 rfl (lv_at hl 3 rfl) ?_
    refine pt_i hx hb hK hP hD hS hL_w_2 hK_w_2 hN_w_2 (rg_in h_a0 (by decide)) dX9_dig_13 (fun r_3 H locs er_3 hP hD hS => ?_)
    have hG := GX.wR hG hSH hT_w_2 rfl er_3 (rg_w (rg_full _) (by decide)) (by decide)
    refine lv_aload_n hx hb dX9_dig_14 rfl (lv_at hl 0 rfl) ?_
    obtain ⟨w_4, hR_w_4, hL_w_4, hK_w_4, hN_w_4, hT_w_4⟩ := sh_a hSH 290 (ci := 9) (kd := 13) (len := 40) rfl (by decide) hL_this hK_this
    refine pg_f (v := .ref w_4) (C := RX9) (T := TX9) (N := 3) hx hb hts (tw_i inlX9) hown hK hP hL_this hK_this (by decide) rfl 2 (by decide) (hts _ (tw_c tw_106)) (pq_hv rfl hR_w_4) dX9_dig_15 ?_
    refine lv_iload_n hx hb dX9_dig_18 rfl (lv_at hl 1 rfl) ?_
    refine lv_iload hx hb dX9_dig_19 (lv_at hl 4 rfl) ?_
    refine pt_i hx hb hK hP hD hS hL_w_4 hK_w_4 hN_w_4 (rg_in h_a0 (by decide)) dX9_dig_21 (fun r_5 H locs er_5 hP hD hS => ?_)
    have hG := GX.wR hG hSH hT_w_4 rfl er_5 (rg_w (rg_full _) (by decide)) (by decide)
    subst hQ
    exact W.vret hx hb hr (fun t1 ht hW => ⟨⟨(σ, I, J, r_5, rj, rq), rfl, ⟨r_5, rfl, hG, (rw1_r (rw1_r (rw1_w er_1) hT_this_gathers (rid_w er_3 hT_w_2 (by decide))) hT_this_gathers (rid_w er_5 hT_w_4 (by decide)))⟩, by rw [ht]; exact hP, va_K.moved hW.alike hK, hD⟩, hS.F ht⟩) hS.2.2 dX9_dig_22
  exact go _ _ _ hP hD hS hl

set_option maxHeartbeats 4000000 in
set_option maxRecDepth 100000 in
theorem s_X11_well_w (l : Launch) (D : va_G) (t : pq_T) (σ : pq_S) (I : Nat → Nat → Int32) (J : Nat → Nat → Int64) (ri : Nat → Nat → Int32) (rj : Nat → Nat → Int64) (rq : Nat → Nat → Option Nat) (sz : Nat) (tg : Nat → Nat) (hSH : SH σ tg) (hG0 : GS tg σ I ri rq) (this : Nat) (a0 : Int32) (a1 : Int32) (a2 : Int32) (a3 : Int32) (hL_this : this ∈ σ.1) (hK_this : σ.2.1 this = 11) (this_now : Nat) (hR_this_now : σ.2.2.1 352 this = some this_now) (hL_this_now : this_now ∈ σ.1) (hK_this_now : σ.2.1 this_now = 10) (this_now_land : Nat) (hR_this_now_land : σ.2.2.1 327 this_now = some this_now_land) (hL_this_now_land : this_now_land ∈ σ.1) (hK_this_now_land : σ.2.1 this_now_land = 2) (this_wells : Nat) (hR_this_wells : σ.2.2.1 78 this_now_land = some this_wells) (hL_this_wells : this_wells ∈ σ.1) (hK_this_wells : σ.2.1 this_wells = 9) (this_gathers : Nat) (hR_this_gathers : σ.2.2.1 288 this_wells = some this_gathers) (hL_this_gathers : this_gathers ∈ σ.1) (hK_this_gathers : σ.2.1 this_gathers = 13) (hN_this_gathers : σ.2.2.2 this_gathers = 40) (hT_this_gathers : tg this_gathers = 288) : MetI l yX11_well (wa yX11_well cX11_well 6 (some .boolean)) ({ frames := 2, cells := 0, slots := 0, locals := 43 }) [.ref this, .int a0, .int a1, .int a2, .int a3] D t σ (I, J, ri, rj, rq) sz 0 0 (fun (r : Int32) (u : pq_S × pq_M) => ∃ ri' : Nat → Nat → Int32, u = (σ, I, J, ri', rj, rq) ∧ GX [1288] tg σ I ri rj I ri' rj rq ∧ ((r = 1 ∧ RW1 tg 288 this_gathers (a0).toNatClampNeg a1 ri ri') ∨ (r = 0 ∧ RID tg 288 ri ri')) ∧ ((r = 1 ∧ rg a0 0 39 ∧ rg a1 1 20 ∧ rg a2 0 10000 ∧ rg a3 0 100 ∧ ((0 ≤ a0.toInt ∧ a0.toInt < (I 65 this_now_land).toInt) ∧ (1 ≤ a1.toInt ∧ a1.toInt ≤ 20) ∧ (0 ≤ a2.toInt ∧ a2.toInt ≤ 10000) ∧ (0 ≤ a3.toInt ∧ a3.toInt ≤ 100) ∧ (ri this_gathers (a0).toNatClampNeg).toInt ≤ 0)) ∨ (r = 0 ∧ (¬ ((0 ≤ a0.toInt ∧ a0.toInt < (I 65 this_now_land).toInt) ∧ (1 ≤ a1.toInt ∧ a1.toInt ≤ 20) ∧ (0 ≤ a2.toInt ∧ a2.toInt ≤ 10000) ∧ (0 ≤ a3.toInt ∧ a3.toInt ≤ 100) ∧ (ri this_gathers (a0).toNatClampNeg).toInt ≤ 0))))) := by
  refine Met.ofW (cc := cX11_well) (maxL := 6) (ret := (some .boolean)) (by decide) rfl ?_
  intro p e s m args below meth c s₁ B hml hv
  obtain ⟨rfl, hsz, hP, hK, hD0, hN⟩ := hv
  have hx := B.exec
  have hb := B.bytes
  have hr := B.returns
  have hts := atoms_spec (ws := (wa yX11_well cX11_well 6 (some .boolean))) B.pre
  have hown : s.vm.findClass RX11 = some m.cls := findClass_of_methodNamed B.named
  have hlocks := B.notSynchronized
  subst hsz
  have hD : va_D (pq_B t σ (I, J, ri, rj, rq) s.heap.size) (pq_P t σ (I, J, ri, rj, rq)) := hD0.self
  generalize hAe : pq_B t σ (I, J, ri, rj, rq) s.heap.size = A at hD ⊢
  have hA : ∀ q : Nat, s.heap.size ≤ q → A q := fun q h => by rw [← hAe]; exact Or.inr h
  have hS : va_S A s.heap s.heap [] := va_S.rf
  have hG : GX [1288] tg σ I ri rj I ri rj rq := ⟨hG0, fun _ _ _ => rfl, fun _ _ _ _ _ => rfl, fun _ _ _ _ _ => rfl⟩
  have hl := lv_entry ([.ref this, .int a0, .int a1, .int a2, .int a3]) (n := 6) (Nat.le_of_ble_eq_true rfl)
  rw [lg_entry_eq]
  generalize (lg_sl ([.ref this, .int a0, .int a1, .int a2, .int a3]) ++ List.replicate (6 - (lg_sl ([.ref this, .int a0, .int a1, .int a2, .int a3])).length) Slot.unset).toArray = ls at hl ⊢
  have hl : lv_has ls 6 [(0, .ref this), (1, .int a0), (2, .int a1), (3, .int a2), (4, .int a3)] := hl
  refine q_gen (fun Q hQ => ?_)
  have go : ∀ (H : Heap) (locs : List Loc) (ls : Array Slot), va_P D vwCl (pq_P t σ (I, J, ri, rj, rq)) H → va_D A (pq_P t σ (I, J, ri, rj, rq)) → va_S A s.heap H locs → lv_has ls 6 [(0, .ref this), (1, .int a0), (2, .int a1), (3, .int a2), (4, .int a3)] → W p l e ({ frames := 2, cells := 0, slots := 0, locals := 43 } : Room) s m (List.toArray ([.ref this, .int a0, .int a1, .int a2, .int a3] : List Value)) below meth c H locs 0 0 Q (F0 m 0 ls []) := by
    intro H locs ls hP hD hS hl
    refine lv_aload_n hx hb dX11_well_0 rfl (lv_at hl 0 rfl) ?_
    refine lv_iload_n hx hb dX11_well_1 rfl (lv_at hl 1 rfl) ?_
    refine pk_i (va_runV (As := [.int a0]) (rest := []) ⟨hx, hb, hml, hown, hts⟩ (s_X11_isCell_w l D t σ I J ri rj rq H.size tg hSH hG.1 this a0 hL_this hK_this this_now hR_this_now hL_this_now hK_this_now this_now_land hR_this_now_land hL_this_now_land hK_this_now_land) (cwV 1 hts (tw_V tw_332 tw_333 tw_334 tw_2 tw_335) rfl rfl rfl cv_yX11_isCell_1 ⟨Nat.le_of_ble_eq_true rfl, Nat.le_of_ble_eq_true rfl⟩) ⟨pq_blind, pq_recv hK hP hL_this hK_this (by decide) rfl, pq_pre hK hN hP hD⟩ rfl rfl hl.1 rfl (lv_room (Nat.le_of_ble_eq_true rfl)) dX11_well_2 ⟨Nat.le_of_ble_eq_true rfl, Nat.le_of_ble_eq_true rfl⟩) hD hS hA (fun x_1 σ1 μ1 H locs hw_2 hP hD hS => ?_)
    obtain ⟨hu_3, hr_5⟩ := hw_2
    obtain ⟨hu_3a, hu_3b⟩ := Prod.mk.inj hu_3
    rw [hu_3a, hu_3b] at hP hD
    have h_6 : rg x_1 0 1 := by rcases hr_5 with ⟨q, -⟩ | ⟨q, -⟩ <;> rw [q] <;> exact ⟨by decide, by decide⟩
    have uh_6 := h_6.1
    have vh_6 := h_6.2
    refine lv_if_eq (tgt := 44) hx hb dX11_well_5 (by decide) (fun c_7 => ?_) (fun c_7 => ?_)
    · have f_8 := (hr_5.resolve_left (fun q => absurd (q.1.symm.trans c_7) (by decide))).2
      have tc_9 : (x_1).toInt = 0 := congrArg Int32.toInt c_7
      have h_10 : rg x_1 0 0 := rg_and h_6 (rg_of_eq c_7 (rg_k (0 : Int32) 0 rfl)) (by decide)
      have uh_10 := h_10.1
      have vh_10 := h_10.2
      refine lv_iconst (v := 0) hx hb dX11_well_44 (by decide) ?_
      refine lv_istore (lv' := [(5, .int 0), (0, .ref this), (1, .int a0), (2, .int a1), (3, .int a2), (4, .int a3)]) hx hb dX11_well_45 hl (by decide) rfl (fun ls hl => ?_)
      refine lv_iload hx hb dX11_well_47 (lv_at hl 0 rfl) ?_
      refine lv_if_eq (tgt := 69) hx hb dX11_well_49 (by decide) (fun c_11 => ?_) (fun c_11 => absurd c_11 (by decide))
      refine lv_iconst (v := 0) hx hb dX11_well_69 (by decide) ?_
      subst hQ
      exact W.zret (v := 0) hx hb hr (by decide) (fun t1 ht hW => ⟨⟨0, (σ, I, J, ri, rj, rq), rfl, ⟨ri, rfl, hG, (Or.inr ⟨rfl, rid_rf⟩), (Or.inr ⟨rfl, (by omega)⟩)⟩, by rw [ht]; exact hP, va_K.moved hW.alike hK, hD⟩, hS.F ht⟩) hS.2.2 dX11_well_70
    · obtain ⟨f_12, f_13⟩ := (hr_5.resolve_right (fun q => c_7 q.1)).2
      have tc_14 : (x_1).toInt ≠ 0 := fun q => c_7 (Int32.toInt_inj.mp q)
      have h_15 : rg x_1 1 1 := rg_ne c_7 h_6 0 rfl (by decide)
      have uh_15 := h_15.1
      have vh_15 := h_15.2
      refine lv_iload_n hx hb dX11_well_8 rfl (lv_at hl 2 rfl) ?_
      refine lv_iconst (v := 1) hx hb dX11_well_9 (by decide) ?_
      refine lv_bipush (v := 20) hx hb dX11_well_10 (by decide) ?_
      refine pk_i (va_runS (As := [.int a1, .int 1, .int 20]) (rest := []) ⟨hx, hb, hml, hown, hts⟩ (s_X11_between_v l D t σ I J ri rj rq H.size tg hSH hG.1 a1 (1 : Int32) (20 : Int32)) (va_cwS 3 hts (tw_S tw_215 tw_216 tw_2 tw_217) rfl rfl rfl cd_yX11_between_3 ⟨Nat.le_of_ble_eq_true rfl, Nat.le_of_ble_eq_true rfl⟩) ⟨pq_blind, pq_pre hK hN hP hD⟩ rfl rfl hl.1 rfl (lv_room (Nat.le_of_ble_eq_true rfl)) dX11_well_12 ⟨Nat.le_of_ble_eq_true rfl, Nat.le_of_ble_eq_true rfl⟩) hD hS hA (fun x_16 σ1 μ1 H locs hw_17 hP hD hS => ?_)
      obtain ⟨hu_18, hr_20⟩ := hw_17
      obtain ⟨hu_18a, hu_18b⟩ := Prod.mk.inj hu_18
      rw [hu_18a, hu_18b] at hP hD
      have h_21 : rg x_16 0 1 := by rcases hr_20 with ⟨q, -⟩ | ⟨q, -⟩ <;> rw [q] <;> exact ⟨by decide, by decide⟩
      have uh_21 := h_21.1
      have vh_21 := h_21.2
      refine lv_if_eq (tgt := 44) hx hb dX11_well_15 (by decide) (fun c_22 => ?_) (fun c_22 => ?_)
      · have f_23 := (hr_20.resolve_left (fun q => absurd (q.1.symm.trans c_22) (by decide))).2
        have zk_24 : (1 : Int32).toInt = 1 := rfl
        have zk_25 : (20 : Int32).toInt = 20 := rfl
        have tc_26 : (x_16).toInt = 0 := congrArg Int32.toInt c_22
        have h_27 : rg x_16 0 0 := rg_and h_21 (rg_of_eq c_22 (rg_k (0 : Int32) 0 rfl)) (by decide)
        have uh_27 := h_27.1
        have vh_27 := h_27.2
        refine lv_iconst (v := 0) hx hb dX11_well_44 (by decide) ?_
        refine lv_istore (lv' := [(5, .int 0), (0, .ref this), (1, .int a0), (2, .int a1), (3, .int a2), (4, .int a3)]) hx hb dX11_well_45 hl (by decide) rfl (fun ls hl => ?_)
        refine lv_iload hx hb dX11_well_47 (lv_at hl 0 rfl) ?_
        refine lv_if_eq (tgt := 69) hx hb dX11_well_49 (by decide) (fun c_28 => ?_) (fun c_28 => absurd c_28 (by decide))
        refine lv_iconst (v := 0) hx hb dX11_well_69 (by decide) ?_
        subst hQ
        exact W.zret (v := 0) hx hb hr (by decide) (fun t1 ht hW => ⟨⟨0, (σ, I, J, ri, rj, rq), rfl, ⟨ri, rfl, hG, (Or.inr ⟨rfl, rid_rf⟩), (Or.inr ⟨rfl, (by omega)⟩)⟩, by rw [ht]; exact hP, va_K.moved hW.alike hK, hD⟩, hS.F ht⟩) hS.2.2 dX11_well_70
      · obtain ⟨f_29, f_30⟩ := (hr_20.resolve_right (fun q => c_22 q.1)).2
        have tc_31 : 1 ≤ (a1).toInt := Int32.le_iff_toInt_le.mp f_29
        have h_32 : rg a1 1 2147483647 := rg_le2 f_29 (rg_k (1 : Int32) 1 rfl) (rg_full _) (by decide)
        have uh_32 := h_32.1
        have vh_32 := h_32.2
        have tc_33 : (a1).toInt ≤ 20 := Int32.le_iff_toInt_le.mp f_30
        have h_34 : rg a1 1 20 := rg_le1 f_30 h_32 (rg_k (20 : Int32) 20 rfl) (by decide)
        have uh_34 := h_34.1
        have vh_34 := h_34.2
        have tc_35 : (x_16).toInt ≠ 0 := fun q => c_22 (Int32.toInt_inj.mp q)
        have h_36 : rg x_16 1 1 := rg_ne c_22 h_21 0 rfl (by decide)
        have uh_36 := h_36.1
        have vh_36 := h_36.2
        refine lv_iload_n hx hb dX11_well_18 rfl (lv_at hl 3 rfl) ?_
        refine lv_iconst (v := 0) hx hb dX11_well_19 (by decide) ?_
        refine lv_sipush (v := 10000) hx hb dX11_well_20 (by decide) ?_
        refine pk_i (va_runS (As := [.int a2, .int 0, .int 10000]) (rest := []) ⟨hx, hb, hml, hown, hts⟩ (s_X11_between_v l D t σ I J ri rj rq H.size tg hSH hG.1 a2 (0 : Int32) (10000 : Int32)) (va_cwS 3 hts (tw_S tw_215 tw_216 tw_2 tw_217) rfl rfl rfl cd_yX11_between_3 ⟨Nat.le_of_ble_eq_true rfl, Nat.le_of_ble_eq_true rfl⟩) ⟨pq_blind, pq_pre hK hN hP hD⟩ rfl rfl hl.1 rfl (lv_room (Nat.le_of_ble_eq_true rfl)) dX11_well_23 ⟨Nat.le_of_ble_eq_true rfl, Nat.le_of_ble_eq_true rfl⟩) hD hS hA (fun x_37 σ1 μ1 H locs hw_38 hP hD hS => ?_)
        obtain ⟨hu_39, hr_41⟩ := hw_38
        obtain ⟨hu_39a, hu_39b⟩ := Prod.mk.inj hu_39
        rw [hu_39a, hu_39b] at hP hD
        have h_42 : rg x_37 0 1 := by rcases hr_41 with ⟨q, -⟩ | ⟨q, -⟩ <;> rw [q] <;> exact ⟨by decide, by decide⟩
        have uh_42 := h_42.1
        have vh_42 := h_42.2
        refine lv_if_eq (tgt := 44) hx hb dX11_well_26 (by decide) (fun c_43 => ?_) (fun c_43 => ?_)
        · have f_44 := (hr_41.resolve_left (fun q => absurd (q.1.symm.trans c_43) (by decide))).2
          have zk_45 : (0 : Int32).toInt = 0 := rfl
          have zk_46 : (10000 : Int32).toInt = 10000 := rfl
          have tc_47 : (x_37).toInt = 0 := congrArg Int32.toInt c_43
          have h_48 : rg x_37 0 0 := rg_and h_42 (rg_of_eq c_43 (rg_k (0 : Int32) 0 rfl)) (by decide)
          have uh_48 := h_48.1
          have vh_48 := h_48.2
          refine lv_iconst (v := 0) hx hb dX11_well_44 (by decide) ?_
          refine lv_istore (lv' := [(5, .int 0), (0, .ref this), (1, .int a0), (2, .int a1), (3, .int a2), (4, .int a3)]) hx hb dX11_well_45 hl (by decide) rfl (fun ls hl => ?_)
          refine lv_iload hx hb dX11_well_47 (lv_at hl 0 rfl) ?_
          refine lv_if_eq (tgt := 69) hx hb dX11_well_49 (by decide) (fun c_49 => ?_) (fun c_49 => absurd c_49 (by decide))
          refine lv_iconst (v := 0) hx hb dX11_well_69 (by decide) ?_
          subst hQ
          exact W.zret (v := 0) hx hb hr (by decide) (fun t1 ht hW => ⟨⟨0, (σ, I, J, ri, rj, rq), rfl, ⟨ri, rfl, hG, (Or.inr ⟨rfl, rid_rf⟩), (Or.inr ⟨rfl, (by omega)⟩)⟩, by rw [ht]; exact hP, va_K.moved hW.alike hK, hD⟩, hS.F ht⟩) hS.2.2 dX11_well_70
        · obtain ⟨f_50, f_51⟩ := (hr_41.resolve_right (fun q => c_43 q.1)).2
          have tc_52 : 0 ≤ (a2).toInt := Int32.le_iff_toInt_le.mp f_50
          have h_53 : rg a2 0 2147483647 := rg_le2 f_50 (rg_k (0 : Int32) 0 rfl) (rg_full _) (by decide)
          have uh_53 := h_53.1
          have vh_53 := h_53.2
          have tc_54 : (a2).toInt ≤ 10000 := Int32.le_iff_toInt_le.mp f_51
          have h_55 : rg a2 0 10000 := rg_le1 f_51 h_53 (rg_k (10000 : Int32) 10000 rfl) (by decide)
          have uh_55 := h_55.1
          have vh_55 := h_55.2
          have tc_56 : (x_37).toInt ≠ 0 := fun q => c_43 (Int32.toInt_inj.mp q)
          have h_57 : rg x_37 1 1 := rg_ne c_43 h_42 0 rfl (by decide)
          have uh_57 := h_57.1
          have vh_57 := h_57.2
          refine lv_iload hx hb dX11_well_29 (lv_at hl 4 rfl) ?_
          refine lv_iconst (v := 0) hx hb dX11_well_31 (by decide) ?_
          refine lv_bipush (v := 100) hx hb dX11_well_32 (by decide) ?_
          refine pk_i (va_runS (As := [.int a3, .int 0, .int 100]) (rest := []) ⟨hx, hb, hml, hown, hts⟩ (s_X11_between_v l D t σ I J ri rj rq H.size tg hSH hG.1 a3 (0 : Int32) (100 : Int32)) (va_cwS 3 hts (tw_S tw_215 tw_216 tw_2 tw_217) rfl rfl rfl cd_yX11_between_3 ⟨Nat.le_of_ble_eq_true rfl, Nat.le_of_ble_eq_true rfl⟩) ⟨pq_blind, pq_pre hK hN hP hD⟩ rfl rfl hl.1 rfl (lv_room (Nat.le_of_ble_eq_true rfl)) dX11_well_34 ⟨Nat.le_of_ble_eq_true rfl, Nat.le_of_ble_eq_true rfl⟩) hD hS hA (fun x_58 σ1 μ1 H locs hw_59 hP hD hS => ?_)
          obtain ⟨hu_60, hr_62⟩ := hw_59
          obtain ⟨hu_60a, hu_60b⟩ := Prod.mk.inj hu_60
          rw [hu_60a, hu_60b] at hP hD
          have h_63 : rg x_58 0 1 := by rcases hr_62 with ⟨q, -⟩ | ⟨q, -⟩ <;> rw [q] <;> exact ⟨by decide, by decide⟩
          have uh_63 := h_63.1
          have vh_63 := h_63.2
          refine lv_if_eq (tgt := 44) hx hb dX11_well_37 (by decide) (fun c_64 => ?_) (fun c_64 => ?_)
          · have f_65 := (hr_62.resolve_left (fun q => absurd (q.1.symm.trans c_64) (by decide))).2
            have zk_66 : (0 : Int32).toInt = 0 := rfl
            have zk_67 : (100 : Int32).toInt = 100 := rfl
            have tc_68 : (x_58).toInt = 0 := congrArg Int32.toInt c_64
            have h_69 : rg x_58 0 0 := rg_and h_63 (rg_of_eq c_64 (rg_k (0 : Int32) 0 rfl)) (by decide)
            have uh_69 := h_69.1
            have vh_69 := h_69.2
            refine lv_iconst (v := 0) hx hb dX11_well_44 (by decide) ?_
            refine lv_istore (lv' := [(5, .int 0), (0, .ref this), (1, .int a0), (2, .int a1), (3, .int a2), (4, .int a3)]) hx hb dX11_well_45 hl (by decide) rfl (fun ls hl => ?_)
            refine lv_iload hx hb dX11_well_47 (lv_at hl 0 rfl) ?_
            refine lv_if_eq (tgt := 69) hx hb dX11_well_49 (by decide) (fun c_70 => ?_) (fun c_70 => absurd c_70 (by decide))
            refine lv_iconst (v := 0) hx hb dX11_well_69 (by decide) ?_
            subst hQ
            exact W.zret (v := 0) hx hb hr (by decide) (fun t1 ht hW => ⟨⟨0, (σ, I, J, ri, rj, rq), rfl, ⟨ri, rfl, hG, (Or.inr ⟨rfl, rid_rf⟩), (Or.inr ⟨rfl, (by omega)⟩)⟩, by rw [ht]; exact hP, va_K.moved hW.alike hK, hD⟩, hS.F ht⟩) hS.2.2 dX11_well_70
          · obtain ⟨f_71, f_72⟩ := (hr_62.resolve_right (fun q => c_64 q.1)).2
            have tc_73 : 0 ≤ (a3).toInt := Int32.le_iff_toInt_le.mp f_71
            have h_74 : rg a3 0 2147483647 := rg_le2 f_71 (rg_k (0 : Int32) 0 rfl) (rg_full _) (by decide)
            have uh_74 := h_74.1
            have vh_74 := h_74.2
            have tc_75 : (a3).toInt ≤ 100 := Int32.le_iff_toInt_le.mp f_72
            have h_76 : rg a3 0 100 := rg_le1 f_72 h_74 (rg_k (100 : Int32) 100 rfl) (by decide)
            have uh_76 := h_76.1
            have vh_76 := h_76.2
            have tc_77 : (x_58).toInt ≠ 0 := fun q => c_64 (Int32.toInt_inj.mp q)
            have h_78 : rg x_58 1 1 := rg_ne c_64 h_63 0 rfl (by decide)
            have uh_78 := h_78.1
            have vh_78 := h_78.2
            refine lv_iconst (v := 1) hx hb dX11_well_40 (by decide) ?_
            refine lv_goto (tgt := 45) hx hb dX11_well_41 (by decide) ?_
            refine lv_istore (lv' := [(5, .int 1), (0, .ref this), (1, .int a0), (2, .int a1), (3, .int a2), (4, .int a3)]) hx hb dX11_well_45 hl (by decide) rfl (fun ls hl => ?_)
            refine lv_iload hx hb dX11_well_47 (lv_at hl 0 rfl) ?_
            refine lv_if_eq (tgt := 69) hx hb dX11_well_49 (by decide) (fun c_79 => absurd c_79 (by decide)) (fun c_79 => ?_)
            refine lv_aload_n hx hb dX11_well_52 rfl (lv_at hl 1 rfl) ?_
            refine pg_f (v := .ref this_now) (C := RX11) (T := TX11) (N := 5) hx hb hts (tw_i inlX11) hown hK hP hL_this hK_this (by decide) rfl 0 (by decide) (hts _ (tw_c tw_16)) (pq_hv rfl hR_this_now) dX11_well_53 ?_
            refine pg_f (v := .ref this_now_land) (C := RX10) (T := TX10) (N := 13) hx hb hts (tw_i inlX10) hown hK hP hL_this_now hK_this_now (by decide) rfl 7 (by decide) (hts _ (tw_c tw_199)) (pq_hv rfl hR_this_now_land) dX11_well_56 ?_
            refine pg_f (v := .ref this_wells) (C := RX2) (T := TX2) (N := 20) hx hb hts (tw_i inlX2) hown hK hP hL_this_now_land hK_this_now_land (by decide) rfl 14 (by decide) (hts _ (tw_c tw_348)) (pq_hv rfl hR_this_wells) dX11_well_59 ?_
            refine lv_iload_n hx hb dX11_well_62 rfl (lv_at hl 2 rfl) ?_
            refine pk_i (va_runV (As := [.int a0]) (rest := []) ⟨hx, hb, hml, hown, hts⟩ (s_X9_isAt_w l D t σ I J ri rj rq H.size tg hSH hG.1 this_wells a0 hL_this_wells hK_this_wells (rg_w f_12 (by decide)) this_gathers hR_this_gathers hL_this_gathers hK_this_gathers hN_this_gathers hT_this_gathers) (cwV 1 hts (tw_V tw_349 tw_350 tw_351 tw_94 tw_352) rfl rfl rfl cv_yX9_isAt_1 ⟨Nat.le_of_ble_eq_true rfl, Nat.le_of_ble_eq_true rfl⟩) ⟨pq_blind, pq_recv hK hP hL_this_wells hK_this_wells (by decide) rfl, pq_pre hK hN hP hD⟩ rfl rfl hl.1 rfl (lv_room (Nat.le_of_ble_eq_true rfl)) dX11_well_63 ⟨Nat.le_of_ble_eq_true rfl, Nat.le_of_ble_eq_true rfl⟩) hD hS hA (fun x_80 σ1 μ1 H locs hw_81 hP hD hS => ?_)
            obtain ⟨hu_82, hr_84⟩ := hw_81
            obtain ⟨hu_82a, hu_82b⟩ := Prod.mk.inj hu_82
            rw [hu_82a, hu_82b] at hP hD
            have h_85 : rg x_80 0 1 := by rcases hr_84 with ⟨q, -⟩ | ⟨q, -⟩ <;> rw [q] <;> exact ⟨by decide, by decide⟩
            have uh_85 := h_85.1
            have vh_85 := h_85.2
            refine lv_if_eq (tgt := 71) hx hb dX11_well_66 (by decide) (fun c_86 => ?_) (fun c_86 => ?_)
            · have f_87 := (hr_84.resolve_left (fun q => absurd (q.1.symm.trans c_86) (by decide))).2
              have tc_88 : (x_80).toInt = 0 := congrArg Int32.toInt c_86
              have h_89 : rg x_80 0 0 := rg_and h_85 (rg_of_eq c_86 (rg_k (0 : Int32) 0 rfl)) (by decide)
              have uh_89 := h_89.1
              have vh_89 := h_89.2
              refine lv_aload_n hx hb dX11_well_71 rfl (lv_at hl 1 rfl) ?_
              refine pg_f (v := .ref this_now) (C := RX11) (T := TX11) (N := 5) hx hb hts (tw_i inlX11) hown hK hP hL_this hK_this (by decide) rfl 0 (by decide) (hts _ (tw_c tw_16)) (pq_hv rfl hR_this_now) dX11_well_72 ?_
              refine pg_f (v := .ref this_now_land) (C := RX10) (T := TX10) (N := 13) hx hb hts (tw_i inlX10) hown hK hP hL_this_now hK_this_now (by decide) rfl 7 (by decide) (hts _ (tw_c tw_199)) (pq_hv rfl hR_this_now_land) dX11_well_75 ?_
              refine pg_f (v := .ref this_wells) (C := RX2) (T := TX2) (N := 20) hx hb hts (tw_i inlX2) hown hK hP hL_this_now_land hK_this_now_land (by decide) rfl 14 (by decide) (hts _ (tw_c tw_348)) (pq_hv rfl hR_this_wells) dX11_well_78 ?_
              refine lv_iload_n hx hb dX11_well_81 rfl (lv_at hl 2 rfl) ?_
              refine lv_iload_n hx hb dX11_well_82 rfl (lv_at hl 3 rfl) ?_
              refine lv_iload_n hx hb dX11_well_83 rfl (lv_at hl 4 rfl) ?_
              refine lv_iload hx hb dX11_well_84 (lv_at hl 5 rfl) ?_
              refine pk_v (va_runV (As := [.int a0, .int a1, .int a2, .int a3]) (rest := []) ⟨hx, hb, hml, hown, hts⟩ (s_X9_dig_w l D t σ I J ri rj rq H.size tg hSH hG.1 this_wells a0 a1 a2 a3 hL_this_wells hK_this_wells (rg_w f_12 (by decide)) this_gathers hR_this_gathers hL_this_gathers hK_this_gathers hN_this_gathers hT_this_gathers) (cwV 4 hts (tw_V tw_353 tw_354 tw_355 tw_94 tw_356) rfl rfl rfl cv_yX9_dig_4 ⟨Nat.le_of_ble_eq_true rfl, Nat.le_of_ble_eq_true rfl⟩) ⟨pq_blind, pq_recv hK hP hL_this_wells hK_this_wells (by decide) rfl, pq_pre hK hN hP hD⟩ rfl rfl hl.1 rfl (lv_room (Nat.le_of_ble_eq_true rfl)) dX11_well_86 ⟨Nat.le_of_ble_eq_true rfl, Nat.le_of_ble_eq_true rfl⟩) hD hS hA (fun σ1 μ1 H locs hw_91 hP hD hS => ?_)
              obtain ⟨ri_92, hu_93, hg_94, hp_96⟩ := hw_91
              obtain ⟨hu_93a, hu_93b⟩ := Prod.mk.inj hu_93
              rw [hu_93a, hu_93b] at hP hD
              have hG := GX.tr hG hg_94 (by decide)
              refine lv_iconst (v := 1) hx hb dX11_well_89 (by decide) ?_
              subst hQ
              exact W.zret (v := 1) hx hb hr (by decide) (fun t1 ht hW => ⟨⟨1, (σ, I, J, ri_92, rj, rq), rfl, ⟨ri_92, rfl, hG, (Or.inl ⟨rfl, hp_96⟩), (Or.inl ⟨rfl, (rg_w f_12 (by decide)), (rg_w h_34 (by decide)), (rg_w h_55 (by decide)), (rg_w h_76 (by decide)), (by omega)⟩)⟩, by rw [ht]; exact hP, va_K.moved hW.alike hK, hD⟩, hS.F ht⟩) hS.2.2 dX11_well_90
            · have f_97 := (hr_84.resolve_right (fun q => c_86 q.1)).2
              have tc_98 : (x_80).toInt ≠ 0 := fun q => c_86 (Int32.toInt_inj.mp q)
              have h_99 : rg x_80 1 1 := rg_ne c_86 h_85 0 rfl (by decide)
              have uh_99 := h_99.1
              have vh_99 := h_99.2
              refine lv_iconst (v := 0) hx hb dX11_well_69 (by decide) ?_
              subst hQ
              exact W.zret (v := 0) hx hb hr (by decide) (fun t1 ht hW => ⟨⟨0, (σ, I, J, ri, rj, rq), rfl, ⟨ri, rfl, hG, (Or.inr ⟨rfl, rid_rf⟩), (Or.inr ⟨rfl, (by omega)⟩)⟩, by rw [ht]; exact hP, va_K.moved hW.alike hK, hD⟩, hS.F ht⟩) hS.2.2 dX11_well_70
  exact go _ _ _ hP hD hS hl

set_option maxHeartbeats 4000000 in
set_option maxRecDepth 100000 in
theorem s_X1_carry_w (l : Launch) (D : va_G) (t : pq_T) (σ : pq_S) (I : Nat → Nat → Int32) (J : Nat → Nat → Int64) (ri : Nat → Nat → Int32) (rj : Nat → Nat → Int64) (rq : Nat → Nat → Option Nat) (sz : Nat) (tg : Nat → Nat) (hSH : SH σ tg) (hG0 : GS tg σ I ri rq) (this : Nat) (a0 : Int32) (a1 : Int32) (hL_this : this ∈ σ.1) (hK_this : σ.2.1 this = 1) (h_a0 : rg a0 0 29) (h_a1 : rg a1 0 39) (this_cell : Nat) (hR_this_cell : σ.2.2.1 33 this = some this_cell) (hL_this_cell : this_cell ∈ σ.1) (hK_this_cell : σ.2.1 this_cell = 13) (hN_this_cell : σ.2.2.2 this_cell = 30) (hT_this_cell : tg this_cell = 33) : MetI l yX1_carry (wa yX1_carry cX1_carry 3 (some .boolean)) ({ frames := 0, cells := 0, slots := 0, locals := 0 }) [.ref this, .int a0, .int a1] D t σ (I, J, ri, rj, rq) sz 0 0 (fun (r : Int32) (u : pq_S × pq_M) => ∃ ri' : Nat → Nat → Int32, ∃ rj' : Nat → Nat → Int64, u = (σ, I, J, ri', rj', rq) ∧ GX [1033, 1034] tg σ I ri rj I ri' rj' rq ∧ ((r = 1 ∧ RW1 tg 33 this_cell (a0).toNatClampNeg a1 ri ri') ∨ (r = 0 ∧ RID tg 33 ri ri')) ∧ ((r = 1 ∧ ((ri this_cell (a0).toNatClampNeg).toInt ≠ a1.toInt)) ∨ (r = 0 ∧ ((ri this_cell (a0).toNatClampNeg).toInt = a1.toInt)))) := by
  refine Met.ofW (cc := cX1_carry) (maxL := 3) (ret := (some .boolean)) (by decide) rfl ?_
  intro p e s m args below meth c s₁ B hml hv
  obtain ⟨rfl, hsz, hP, hK, hD0, hN⟩ := hv
  have hx := B.exec
  have hb := B.bytes
  have hr := B.returns
  have hts := atoms_spec (ws := (wa yX1_carry cX1_carry 3 (some .boolean))) B.pre
  have hown : s.vm.findClass RX1 = some m.cls := findClass_of_methodNamed B.named
  have hlocks := B.notSynchronized
  subst hsz
  have hD : va_D (pq_B t σ (I, J, ri, rj, rq) s.heap.size) (pq_P t σ (I, J, ri, rj, rq)) := hD0.self
  generalize hAe : pq_B t σ (I, J, ri, rj, rq) s.heap.size = A at hD ⊢
  have hA : ∀ q : Nat, s.heap.size ≤ q → A q := fun q h => by rw [← hAe]; exact Or.inr h
  have hS : va_S A s.heap s.heap [] := va_S.rf
  have hG : GX [1033, 1034] tg σ I ri rj I ri rj rq := ⟨hG0, fun _ _ _ => rfl, fun _ _ _ _ _ => rfl, fun _ _ _ _ _ => rfl⟩
  have hl := lv_entry ([.ref this, .int a0, .int a1]) (n := 3) (Nat.le_of_ble_eq_true rfl)
  rw [lg_entry_eq]
  generalize (lg_sl ([.ref this, .int a0, .int a1]) ++ List.replicate (3 - (lg_sl ([.ref this, .int a0, .int a1])).length) Slot.unset).toArray = ls at hl ⊢
  have hl : lv_has ls 3 [(0, .ref this), (1, .int a0), (2, .int a1)] := hl
  refine q_gen (fun Q hQ => ?_)
  have go : ∀ (H : Heap) (locs : List Loc) (ls : Array Slot), va_P D vwCl (pq_P t σ (I, J, ri, rj, rq)) H → va_D A (pq_P t σ (I, J, ri, rj, rq)) → va_S A s.heap H locs → lv_has ls 3 [(0, .ref this), (1, .int a0), (2, .int a1)] → W p l e ({ frames := 0, cells := 0, slots := 0, locals := 0 } : Room) s m (List.toArray ([.ref this, .int a0, .int a1] : List Value)) below meth c H locs 0 0 Q (F0 m 0 ls []) := by
    intro H locs ls hP hD hS hl
    refine lv_aload_n hx hb dX1_carry_0 rfl (lv_at hl 0 rfl) ?_
    refine pg_f (v := .ref this_cell) (C := RX1) (T := TX1) (N := 3) hx hb hts (tw_i inlX1) hown hK hP hL_this hK_this (by decide) rfl 1 (by decide) (hts _ (tw_c tw_137)) (pq_hv rfl hR_this_cell) dX1_carry_1 ?_
    refine lv_iload_n hx hb dX1_carry_4 rfl (lv_at hl 1 rfl) ?_
    refine pl_i hx hb hK hP hL_this_cell hK_this_cell hN_this_cell (rg_in h_a0 (by decide)) dX1_carry_5 ?_
    refine lv_topi (fun x_1 ex_1 => ?_)
    have ex_1 : x_1 = ri this_cell (a0).toNatClampNeg := ex_1
    have h_2 : rg x_1 0 39 := rg_of_eq ex_1 (GX.rR hG hT_this_cell rfl)
    have uh_2 := h_2.1
    have vh_2 := h_2.2
    have tt_3 : (x_1).toInt = (ri this_cell (a0).toNatClampNeg).toInt := congrArg Int32.toInt ex_1
    refine lv_iload_n hx hb dX1_carry_6 rfl (lv_at hl 2 rfl) ?_
    refine lv_icmp_ne (tgt := 12) hx hb dX1_carry_7 (by decide) (fun c_4 => ?_) (fun c_4 => ?_)
    · have tc_5 : (x_1).toInt ≠ (a1).toInt := fun q => c_4 (Int32.toInt_inj.mp q)
      refine lv_aload_n hx hb dX1_carry_12 rfl (lv_at hl 0 rfl) ?_
      refine pg_f (v := .ref this_cell) (C := RX1) (T := TX1) (N := 3) hx hb hts (tw_i inlX1) hown hK hP hL_this hK_this (by decide) rfl 1 (by decide) (hts _ (tw_c tw_137)) (pq_hv rfl hR_this_cell) dX1_carry_13 ?_
      refine lv_iload_n hx hb dX1_carry_16 rfl (lv_at hl 1 rfl) ?_
      refine lv_iload_n hx hb dX1_carry_17 rfl (lv_at hl 2 rfl) ?_
      refine pt_i hx hb hK hP hD hS hL_this_cell hK_this_cell hN_this_cell (rg_in h_a0 (by decide)) dX1_carry_18 (fun r_6 H locs er_6 hP hD hS => ?_)
      have hG := GX.wR hG hSH hT_this_cell rfl er_6 (rg_w h_a1 (by decide)) (by decide)
      refine lv_aload_n hx hb dX1_carry_19 rfl (lv_at hl 0 rfl) ?_
      obtain ⟨w_7, hR_w_7, hL_w_7, hK_w_7, hN_w_7, hT_w_7⟩ := sh_a hSH 34 (ci := 1) (kd := 14) (len := 30) rfl (by decide) hL_this hK_this
      refine pg_f (v := .ref w_7) (C := RX1) (T := TX1) (N := 3) hx hb hts (tw_i inlX1) hown hK hP hL_this hK_this (by decide) rfl 2 (by decide) (hts _ (tw_c tw_138)) (pq_hv rfl hR_w_7) dX1_carry_20 ?_
      refine lv_iload_n hx hb dX1_carry_23 rfl (lv_at hl 1 rfl) ?_
      refine lv_dup2_11 hx hb dX1_carry_24 rfl rfl ?_
      refine pl_l hx hb hK hP hL_w_7 hK_w_7 hN_w_7 (rg_in h_a0 (by decide)) dX1_carry_25 ?_
      refine lv_topl (fun x_8 ex_8 => ?_)
      refine lv_lconst (v := 1) hx hb dX1_carry_26 (by decide) ?_
      refine lv_iload_n hx hb dX1_carry_27 rfl (lv_at hl 2 rfl) ?_
      refine lv_lshl hx hb dX1_carry_28 rfl ?_
      refine lv_topl (fun x_9 ex_9 => ?_)
      refine lv_lor hx hb dX1_carry_29 ?_
      refine lv_topl (fun x_10 ex_10 => ?_)
      refine pt_l hx hb hK hP hD hS hL_w_7 hK_w_7 hN_w_7 (rg_in h_a0 (by decide)) dX1_carry_30 (fun r_11 H locs er_11 hP hD hS => ?_)
      have hG := GX.wJ hG hT_w_7 er_11 (by decide)
      refine lv_iconst (v := 1) hx hb dX1_carry_31 (by decide) ?_
      subst hQ
      exact W.zret (v := 1) hx hb hr (by decide) (fun t1 ht hW => ⟨⟨1, (σ, I, J, r_6, r_11, rq), rfl, ⟨r_6, r_11, rfl, hG, (Or.inl ⟨rfl, (rw1_w er_6)⟩), (Or.inl ⟨rfl, (by omega)⟩)⟩, by rw [ht]; exact hP, va_K.moved hW.alike hK, hD⟩, hS.F ht⟩) hS.2.2 dX1_carry_32
    · have tc_12 : (x_1).toInt = (a1).toInt := congrArg Int32.toInt c_4
      refine lv_iconst (v := 0) hx hb dX1_carry_10 (by decide) ?_
      subst hQ
      exact W.zret (v := 0) hx hb hr (by decide) (fun t1 ht hW => ⟨⟨0, (σ, I, J, ri, rj, rq), rfl, ⟨ri, rj, rfl, hG, (Or.inr ⟨rfl, rid_rf⟩), (Or.inr ⟨rfl, (by omega)⟩)⟩, by rw [ht]; exact hP, va_K.moved hW.alike hK, hD⟩, hS.F ht⟩) hS.2.2 dX1_carry_11
  exact go _ _ _ hP hD hS hl

set_option maxHeartbeats 4000000 in
set_option maxRecDepth 100000 in
theorem s_X11_bury_w (l : Launch) (D : va_G) (t : pq_T) (σ : pq_S) (I : Nat → Nat → Int32) (J : Nat → Nat → Int64) (ri : Nat → Nat → Int32) (rj : Nat → Nat → Int64) (rq : Nat → Nat → Option Nat) (sz : Nat) (tg : Nat → Nat) (hSH : SH σ tg) (hG0 : GS tg σ I ri rq) (this : Nat) (a0 : Int32) (a1 : Int32) (hL_this : this ∈ σ.1) (hK_this : σ.2.1 this = 11) (this_now : Nat) (hR_this_now : σ.2.2.1 352 this = some this_now) (hL_this_now : this_now ∈ σ.1) (hK_this_now : σ.2.1 this_now = 10) (this_now_graves : Nat) (hR_this_now_graves : σ.2.2.1 330 this_now = some this_now_graves) (hL_this_now_graves : this_now_graves ∈ σ.1) (hK_this_now_graves : σ.2.1 this_now_graves = 1) (this_now_land : Nat) (hR_this_now_land : σ.2.2.1 327 this_now = some this_now_land) (hL_this_now_land : this_now_land ∈ σ.1) (hK_this_now_land : σ.2.1 this_now_land = 2) (this_cell : Nat) (hR_this_cell : σ.2.2.1 33 this_now_graves = some this_cell) (hL_this_cell : this_cell ∈ σ.1) (hK_this_cell : σ.2.1 this_cell = 13) (hN_this_cell : σ.2.2.2 this_cell = 30) (hT_this_cell : tg this_cell = 33) : MetI l yX11_bury (wa yX11_bury cX11_bury 3 (some .boolean)) ({ frames := 2, cells := 0, slots := 0, locals := 43 }) [.ref this, .int a0, .int a1] D t σ (I, J, ri, rj, rq) sz 0 0 (fun (r : Int32) (u : pq_S × pq_M) => ∃ ri' : Nat → Nat → Int32, ∃ rj' : Nat → Nat → Int64, u = (σ, I, J, ri', rj', rq) ∧ GX [1033, 1034] tg σ I ri rj I ri' rj' rq ∧ ((r = 1 ∧ RW1 tg 33 this_cell (a0).toNatClampNeg a1 ri ri') ∨ (r = 0 ∧ RID tg 33 ri ri')) ∧ ((r = 1 ∧ rg a0 0 29 ∧ rg a1 0 39 ∧ ((0 ≤ a0.toInt ∧ a0.toInt < (I 32 this_now_graves).toInt) ∧ (0 ≤ a1.toInt ∧ a1.toInt < (I 65 this_now_land).toInt) ∧ (ri this_cell (a0).toNatClampNeg).toInt ≠ a1.toInt)) ∨ (r = 0 ∧ (¬ ((0 ≤ a0.toInt ∧ a0.toInt < (I 32 this_now_graves).toInt) ∧ (0 ≤ a1.toInt ∧ a1.toInt < (I 65 this_now_land).toInt) ∧ (ri this_cell (a0).toNatClampNeg).toInt ≠ a1.toInt))))) := by
  refine Met.ofW (cc := cX11_bury) (maxL := 3) (ret := (some .boolean)) (by decide) rfl ?_
  intro p e s m args below meth c s₁ B hml hv
  obtain ⟨rfl, hsz, hP, hK, hD0, hN⟩ := hv
  have hx := B.exec
  have hb := B.bytes
  have hr := B.returns
  have hts := atoms_spec (ws := (wa yX11_bury cX11_bury 3 (some .boolean))) B.pre
  have hown : s.vm.findClass RX11 = some m.cls := findClass_of_methodNamed B.named
  have hlocks := B.notSynchronized
  subst hsz
  have hD : va_D (pq_B t σ (I, J, ri, rj, rq) s.heap.size) (pq_P t σ (I, J, ri, rj, rq)) := hD0.self
  generalize hAe : pq_B t σ (I, J, ri, rj, rq) s.heap.size = A at hD ⊢
  have hA : ∀ q : Nat, s.heap.size ≤ q → A q := fun q h => by rw [← hAe]; exact Or.inr h
  have hS : va_S A s.heap s.heap [] := va_S.rf
  have hG : GX [1033, 1034] tg σ I ri rj I ri rj rq := ⟨hG0, fun _ _ _ => rfl, fun _ _ _ _ _ => rfl, fun _ _ _ _ _ => rfl⟩
  have hl := lv_entry ([.ref this, .int a0, .int a1]) (n := 3) (Nat.le_of_ble_eq_true rfl)
  rw [lg_entry_eq]
  generalize (lg_sl ([.ref this, .int a0, .int a1]) ++ List.replicate (3 - (lg_sl ([.ref this, .int a0, .int a1])).length) Slot.unset).toArray = ls at hl ⊢
  have hl : lv_has ls 3 [(0, .ref this), (1, .int a0), (2, .int a1)] := hl
  refine q_gen (fun Q hQ => ?_)
  have go : ∀ (H : Heap) (locs : List Loc) (ls : Array Slot), va_P D vwCl (pq_P t σ (I, J, ri, rj, rq)) H → va_D A (pq_P t σ (I, J, ri, rj, rq)) → va_S A s.heap H locs → lv_has ls 3 [(0, .ref this), (1, .int a0), (2, .int a1)] → W p l e ({ frames := 2, cells := 0, slots := 0, locals := 43 } : Room) s m (List.toArray ([.ref this, .int a0, .int a1] : List Value)) below meth c H locs 0 0 Q (F0 m 0 ls []) := by
    intro H locs ls hP hD hS hl
    refine lv_iload_n hx hb dX11_bury_0 rfl (lv_at hl 1 rfl) ?_
    refine lv_iconst (v := 0) hx hb dX11_bury_1 (by decide) ?_
    refine lv_aload_n hx hb dX11_bury_2 rfl (lv_at hl 0 rfl) ?_
    refine pg_f (v := .ref this_now) (C := RX11) (T := TX11) (N := 5) hx hb hts (tw_i inlX11) hown hK hP hL_this hK_this (by decide) rfl 0 (by decide) (hts _ (tw_c tw_16)) (pq_hv rfl hR_this_now) dX11_bury_3 ?_
    refine pg_f (v := .ref this_now_graves) (C := RX10) (T := TX10) (N := 13) hx hb hts (tw_i inlX10) hown hK hP hL_this_now hK_this_now (by decide) rfl 10 (by decide) (hts _ (tw_c tw_1499)) (pq_hv rfl hR_this_now_graves) dX11_bury_6 ?_
    refine pg_f (v := .int (I 32 this_now_graves)) (C := RX1) (T := TX1) (N := 3) hx hb hts (tw_i inlX1) hown hK hP hL_this_now_graves hK_this_now_graves (by decide) rfl 0 (by decide) (hts _ (tw_c tw_1500)) rfl dX11_bury_9 ?_
    have h_1 : rg (I 32 this_now_graves) 0 30 := GX.rI hG 32 rfl
    have uh_1 := h_1.1
    have vh_1 := h_1.2
    refine lv_iconst (v := 1) hx hb dX11_bury_12 (by decide) ?_
    refine lv_isub hx hb dX11_bury_13 ?_
    refine lv_topi (fun x_2 ex_2 => ?_)
    have h_3 : rg x_2 (-1) 29 := rg_of_eq ex_2 (rg_sub h_1 (rg_k (1 : Int32) 1 rfl) (by decide))
    have uh_3 := h_3.1
    have vh_3 := h_3.2
    have tx_2 : (x_2).toInt = (I 32 this_now_graves).toInt - 1 := by rw [ex_2]; exact i_sub_rg (a2 := (I 32 this_now_graves).toInt) (b2 := 1) rfl rfl h_1 (rg_k (1 : Int32) 1 rfl) (by decide)
    refine pk_i (va_runS (As := [.int a0, .int 0, .int x_2]) (rest := []) ⟨hx, hb, hml, hown, hts⟩ (s_X11_between_v l D t σ I J ri rj rq H.size tg hSH hG.1 a0 (0 : Int32) x_2) (va_cwS 3 hts (tw_S tw_215 tw_216 tw_2 tw_217) rfl rfl rfl cd_yX11_between_3 ⟨Nat.le_of_ble_eq_true rfl, Nat.le_of_ble_eq_true rfl⟩) ⟨pq_blind, pq_pre hK hN hP hD⟩ rfl rfl hl.1 rfl (lv_room (Nat.le_of_ble_eq_true rfl)) dX11_bury_14 ⟨Nat.le_of_ble_eq_true rfl, Nat.le_of_ble_eq_true rfl⟩) hD hS hA (fun x_4 σ1 μ1 H locs hw_5 hP hD hS => ?_)
    obtain ⟨hu_6, hr_8⟩ := hw_5
    obtain ⟨hu_6a, hu_6b⟩ := Prod.mk.inj hu_6
    rw [hu_6a, hu_6b] at hP hD
    have h_9 : rg x_4 0 1 := by rcases hr_8 with ⟨q, -⟩ | ⟨q, -⟩ <;> rw [q] <;> exact ⟨by decide, by decide⟩
    have uh_9 := h_9.1
    have vh_9 := h_9.2
    refine lv_if_eq (tgt := 28) hx hb dX11_bury_17 (by decide) (fun c_10 => ?_) (fun c_10 => ?_)
    · have f_11 := (hr_8.resolve_left (fun q => absurd (q.1.symm.trans c_10) (by decide))).2
      have zk_12 : (0 : Int32).toInt = 0 := rfl
      have tc_13 : (x_4).toInt = 0 := congrArg Int32.toInt c_10
      have h_14 : rg x_4 0 0 := rg_and h_9 (rg_of_eq c_10 (rg_k (0 : Int32) 0 rfl)) (by decide)
      have uh_14 := h_14.1
      have vh_14 := h_14.2
      refine lv_iconst (v := 0) hx hb dX11_bury_28 (by decide) ?_
      subst hQ
      exact W.zret (v := 0) hx hb hr (by decide) (fun t1 ht hW => ⟨⟨0, (σ, I, J, ri, rj, rq), rfl, ⟨ri, rj, rfl, hG, (Or.inr ⟨rfl, rid_rf⟩), (Or.inr ⟨rfl, (by omega)⟩)⟩, by rw [ht]; exact hP, va_K.moved hW.alike hK, hD⟩, hS.F ht⟩) hS.2.2 dX11_bury_29
    · obtain ⟨f_15, f_16⟩ := (hr_8.resolve_right (fun q => c_10 q.1)).2
      have tc_17 : 0 ≤ (a0).toInt := Int32.le_iff_toInt_le.mp f_15
      have h_18 : rg a0 0 2147483647 := rg_le2 f_15 (rg_k (0 : Int32) 0 rfl) (rg_full _) (by decide)
      have uh_18 := h_18.1
      have vh_18 := h_18.2
      have tc_19 : (a0).toInt ≤ (x_2).toInt := Int32.le_iff_toInt_le.mp f_16
      have h_20 : rg a0 0 29 := rg_le1 f_16 h_18 h_3 (by decide)
      have uh_20 := h_20.1
      have vh_20 := h_20.2
      have h_21 : rg x_2 0 29 := rg_le2 f_16 h_18 h_3 (by decide)
      have uh_21 := h_21.1
      have vh_21 := h_21.2
      have tc_22 : (x_4).toInt ≠ 0 := fun q => c_10 (Int32.toInt_inj.mp q)
      have h_23 : rg x_4 1 1 := rg_ne c_10 h_9 0 rfl (by decide)
      have uh_23 := h_23.1
      have vh_23 := h_23.2
      refine lv_aload_n hx hb dX11_bury_20 rfl (lv_at hl 0 rfl) ?_
      refine lv_iload_n hx hb dX11_bury_21 rfl (lv_at hl 2 rfl) ?_
      refine pk_i (va_runV (As := [.int a1]) (rest := []) ⟨hx, hb, hml, hown, hts⟩ (s_X11_isCell_w l D t σ I J ri rj rq H.size tg hSH hG.1 this a1 hL_this hK_this this_now hR_this_now hL_this_now hK_this_now this_now_land hR_this_now_land hL_this_now_land hK_this_now_land) (cwV 1 hts (tw_V tw_332 tw_333 tw_334 tw_2 tw_335) rfl rfl rfl cv_yX11_isCell_1 ⟨Nat.le_of_ble_eq_true rfl, Nat.le_of_ble_eq_true rfl⟩) ⟨pq_blind, pq_recv hK hP hL_this hK_this (by decide) rfl, pq_pre hK hN hP hD⟩ rfl rfl hl.1 rfl (lv_room (Nat.le_of_ble_eq_true rfl)) dX11_bury_22 ⟨Nat.le_of_ble_eq_true rfl, Nat.le_of_ble_eq_true rfl⟩) hD hS hA (fun x_24 σ1 μ1 H locs hw_25 hP hD hS => ?_)
      obtain ⟨hu_26, hr_28⟩ := hw_25
      obtain ⟨hu_26a, hu_26b⟩ := Prod.mk.inj hu_26
      rw [hu_26a, hu_26b] at hP hD
      have h_29 : rg x_24 0 1 := by rcases hr_28 with ⟨q, -⟩ | ⟨q, -⟩ <;> rw [q] <;> exact ⟨by decide, by decide⟩
      have uh_29 := h_29.1
      have vh_29 := h_29.2
      refine lv_if_ne (tgt := 30) hx hb dX11_bury_25 (by decide) (fun c_30 => ?_) (fun c_30 => ?_)
      · obtain ⟨f_31, f_32⟩ := (hr_28.resolve_right (fun q => c_30 q.1)).2
        have tc_33 : (x_24).toInt ≠ 0 := fun q => c_30 (Int32.toInt_inj.mp q)
        have h_34 : rg x_24 1 1 := rg_ne c_30 h_29 0 rfl (by decide)
        have uh_34 := h_34.1
        have vh_34 := h_34.2
        refine lv_aload_n hx hb dX11_bury_30 rfl (lv_at hl 0 rfl) ?_
        refine pg_f (v := .ref this_now) (C := RX11) (T := TX11) (N := 5) hx hb hts (tw_i inlX11) hown hK hP hL_this hK_this (by decide) rfl 0 (by decide) (hts _ (tw_c tw_16)) (pq_hv rfl hR_this_now) dX11_bury_31 ?_
        refine pg_f (v := .ref this_now_graves) (C := RX10) (T := TX10) (N := 13) hx hb hts (tw_i inlX10) hown hK hP hL_this_now hK_this_now (by decide) rfl 10 (by decide) (hts _ (tw_c tw_1499)) (pq_hv rfl hR_this_now_graves) dX11_bury_34 ?_
        refine lv_iload_n hx hb dX11_bury_37 rfl (lv_at hl 1 rfl) ?_
        refine lv_iload_n hx hb dX11_bury_38 rfl (lv_at hl 2 rfl) ?_
        refine pk_i (va_runV (As := [.int a0, .int a1]) (rest := []) ⟨hx, hb, hml, hown, hts⟩ (s_X1_carry_w l D t σ I J ri rj rq H.size tg hSH hG.1 this_now_graves a0 a1 hL_this_now_graves hK_this_now_graves (rg_w h_20 (by decide)) (rg_w f_31 (by decide)) this_cell hR_this_cell hL_this_cell hK_this_cell hN_this_cell hT_this_cell) (cwV 2 hts (tw_V tw_1517 tw_1518 tw_1519 tw_53 tw_1520) rfl rfl rfl cv_yX1_carry_2 ⟨Nat.le_of_ble_eq_true rfl, Nat.le_of_ble_eq_true rfl⟩) ⟨pq_blind, pq_recv hK hP hL_this_now_graves hK_this_now_graves (by decide) rfl, pq_pre hK hN hP hD⟩ rfl rfl hl.1 rfl (lv_room (Nat.le_of_ble_eq_true rfl)) dX11_bury_39 ⟨Nat.le_of_ble_eq_true rfl, Nat.le_of_ble_eq_true rfl⟩) hD hS hA (fun x_35 σ1 μ1 H locs hw_36 hP hD hS => ?_)
        obtain ⟨ri_37, rj_38, hu_39, hg_40, hp_42, hr_41⟩ := hw_36
        obtain ⟨hu_39a, hu_39b⟩ := Prod.mk.inj hu_39
        rw [hu_39a, hu_39b] at hP hD
        have hG := GX.tr hG hg_40 (by decide)
        have h_43 : rg x_35 0 1 := by rcases hr_41 with ⟨q, -⟩ | ⟨q, -⟩ <;> rw [q] <;> exact ⟨by decide, by decide⟩
        have uh_43 := h_43.1
        have vh_43 := h_43.2
        rcases hr_41 with ⟨e_46, f_44⟩ | ⟨e_46, f_45⟩
        · refine lv_tov 1 e_46 ?_
          subst hQ
          exact W.zret (v := 1) hx hb hr (by decide) (fun t1 ht hW => ⟨⟨1, (σ, I, J, ri_37, rj_38, rq), rfl, ⟨ri_37, rj_38, rfl, hG, (Or.inl ⟨rfl, (hp_42.resolve_right (fun q => absurd (e_46.symm.trans q.1) (by decide))).2⟩), (Or.inl ⟨rfl, (rg_w h_20 (by decide)), (rg_w f_31 (by decide)), (by omega)⟩)⟩, by rw [ht]; exact hP, va_K.moved hW.alike hK, hD⟩, hS.F ht⟩) hS.2.2 dX11_bury_42
        · refine lv_tov 0 e_46 ?_
          subst hQ
          exact W.zret (v := 0) hx hb hr (by decide) (fun t1 ht hW => ⟨⟨0, (σ, I, J, ri_37, rj_38, rq), rfl, ⟨ri_37, rj_38, rfl, hG, (Or.inr ⟨rfl, (hp_42.resolve_left (fun q => absurd (e_46.symm.trans q.1) (by decide))).2⟩), (Or.inr ⟨rfl, (by omega)⟩)⟩, by rw [ht]; exact hP, va_K.moved hW.alike hK, hD⟩, hS.F ht⟩) hS.2.2 dX11_bury_42
      · have f_47 := (hr_28.resolve_left (fun q => absurd (q.1.symm.trans c_30) (by decide))).2
        have tc_48 : (x_24).toInt = 0 := congrArg Int32.toInt c_30
        have h_49 : rg x_24 0 0 := rg_and h_29 (rg_of_eq c_30 (rg_k (0 : Int32) 0 rfl)) (by decide)
        have uh_49 := h_49.1
        have vh_49 := h_49.2
        refine lv_iconst (v := 0) hx hb dX11_bury_28 (by decide) ?_
        subst hQ
        exact W.zret (v := 0) hx hb hr (by decide) (fun t1 ht hW => ⟨⟨0, (σ, I, J, ri, rj, rq), rfl, ⟨ri, rj, rfl, hG, (Or.inr ⟨rfl, rid_rf⟩), (Or.inr ⟨rfl, (by omega)⟩)⟩, by rw [ht]; exact hP, va_K.moved hW.alike hK, hD⟩, hS.F ht⟩) hS.2.2 dX11_bury_29
  exact go _ _ _ hP hD hS hl
