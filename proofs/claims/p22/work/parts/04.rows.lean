def pq_nl : List (String × Nat × MethodName) := [(RX7, 55, yX11_fill), (RX2, 45, yX9_init), (RX2, 65, yX11_fill), (RX10, 38, yX0_init), (RX10, 45, yX3_init), (RX10, 52, yX1_init), (RX10, 63, yX11_fill), (RX11, 24, yX5_init), (RX11, 31, yX4_init), (RX4, 11, yX6_init), (RX4, 27, yX8_init), (RX2, 101, yX11_hasBit), (RX3, 65, yX11_hasBit), (RX0, 73, yX11_hasBit), (RX9, 29, yX11_hasBit), (RX0, 58, yX11_copy), (RX0, 113, yX11_fill), (RX10, 76, yX11_copy), (RX7, 62, yX11_copy), (RX2, 89, yX11_copy), (RX9, 21, yX11_copy), (RX3, 40, yX11_copy), (RX1, 23, yX11_copy), (RX5, 60, yX11_copy), (RX10, 226, yX11_hasBit), (RX1, 33, yX11_hasBit)]
/-! ===== rows over the pool ===== -/
section PQ
variable {p : Program} {l : Launch} {e : Env} {R : Room} {s : State} {m : MethodId} {args : Array Value} {below : List Frame} {meth : Method} {c : Code} {H : Heap} {locs : List Loc} {cells slots : Nat} {Q : State → Prop}
variable {cc : ByteArray} {pc : Nat} {ls : Array Slot} {rest : List Value} {D : va_G} {A : Nat → Prop} {a : Nat} {t : pq_T} {σ : pq_S} {H0 : Heap}
variable {I : Nat → Nat → Int32} {J : Nat → Nat → Int64} {ri : Nat → Nat → Int32} {rj : Nat → Nat → Int64} {rq : Nat → Nat → Option Nat}
theorem lv_tov {x : Int32} (v : Int32) (h : x = v) (k : W p l e R s m args below meth c H locs cells slots Q (F0 m pc ls (.int v :: rest))) : W p l e R s m args below meth c H locs cells slots Q (F0 m pc ls (.int x :: rest)) := h ▸ k
/-- getfield -/
theorem pg_f (hx : p.tables.exec = Jvm.exec) (hb : c.code = cc) {own C : String} {T : u_T} {N k index : Nat} {Ts : List Cond} {μ : pq_M} (hts : ∀ w ∈ Ts, w.before args s = true) (hin : ∀ w ∈ u_ws C T N, w ∈ Ts) (hown : s.vm.findClass own = some m.cls) (hK : va_K D vwCl (pq_ty t) s) (hP : va_P D vwCl (pq_P t σ μ) H) (hL : a ∈ σ.1) (hk : σ.2.1 a = k) (h13 : k < 13) (hc : vwCl[k]? = some (C, T, N)) (j : Nat) (hj : j < N) (hlink : (Cond.fieldLink own index (T j).1 (T j).2.1 (T j).2.2.1).before args s = true) {v : Value} (hv : (pq_fl σ.2.2.1 μ.1 μ.2.1 k a)[j]? = some v) (hdg : decode cc pc = .ok (.getfield index, 3))
    (kk : W p l e R s m args below meth c H locs cells slots Q (F0 m (pc + 3) ls (v :: rest))) : W p l e R s m args below meth c H locs cells slots Q (F0 m pc ls (.ref a :: rest)) := by
  obtain ⟨q, hq⟩ := pq_in (t := t) (μ := μ) hL
  rw [pq_o h13 hk] at hq
  have hsame : ∀ x, s.fieldFound? (T j).1 (T j).2.1 (T j).2.2.1 = some x → s.fieldFound? (T j).1 (T j).2.1 (T j).2.2.1 = some x := fun _ h => h
  exact va_get hx hb hts hin hown hK hP q hq hc j hj hlink hsame hv hdg kk
theorem pq_hv {L : List Value} {j b : Nat} {o : Option Nat} (h1 : L[j]? = some (va_rf o)) (h2 : o = some b) : L[j]? = some (.ref b) := by rw [h1, h2]; rfl
/-- putfield of an int (or a boolean) -/
theorem pp_i (hx : p.tables.exec = Jvm.exec) (hb : c.code = cc) {own C : String} {T : u_T} {N k index : Nat} {Ts : List Cond} (hts : ∀ w ∈ Ts, w.before args s = true) (hin : ∀ w ∈ u_ws C T N, w ∈ Ts) (ty0 : Nat → FieldType) (hty : ∀ k, k < N → parseFieldDescriptor (T k).2.2.1 = some (ty0 k)) (hnm : ∀ a, a < N → ∀ b, b < N → a ≠ b → (T a).2.1 ≠ (T b).2.1) (hown : s.vm.findClass own = some m.cls) (hK : va_K D vwCl (pq_ty t) s) (hP : va_P D vwCl (pq_P t σ (I, J, ri, rj, rq)) H) (hD : va_D A (pq_P t σ (I, J, ri, rj, rq))) (hS : va_S A H0 H locs) (hL : a ∈ σ.1) (hk : σ.2.1 a = k) (h13 : k < 13) (hc : vwCl[k]? = some (C, T, N)) (j f : Nat) (hj : j < N) (hlink : (Cond.fieldLink own index (T j).1 (T j).2.1 (T j).2.2.1).before args s = true) (hfin : (T j).2.2.2 = false) {ty : FieldType} {v : Int32} (hd : parseFieldDescriptor (T j).2.2.1 = some ty) (hn : narrow ty (.int v) = .int v) (hfit : fits ty (.int v) = true) (hl : j < (pq_fl σ.2.2.1 I J k a).length) (hset : pq_fl σ.2.2.1 (pq_u I f a v) J k a = (pq_fl σ.2.2.1 I J k a).set j (.int v)) (hdg : decode cc pc = .ok (.putfield index, 3))
    (kk : ∀ (I1 : Nat → Nat → Int32) (H1 : Heap) (locs1 : List Loc), I1 = pq_u I f a v → va_P D vwCl (pq_P t σ (I1, J, ri, rj, rq)) H1 → va_D A (pq_P t σ (I1, J, ri, rj, rq)) → va_S A H0 H1 locs1 → W p l e R s m args below meth c H1 locs1 cells slots Q (F0 m (pc + 3) ls rest)) : W p l e R s m args below meth c H locs cells slots Q (F0 m pc ls (.int v :: .ref a :: rest)) := by
  obtain ⟨q, hq⟩ := pq_in (t := t) (μ := (I, J, ri, rj, rq)) hL
  have hq2 := hq
  rw [pq_o h13 hk] at hq2
  have hsame : ∀ x, s.fieldFound? (T j).1 (T j).2.1 (T j).2.2.1 = some x → s.fieldFound? (T j).1 (T j).2.1 (T j).2.2.1 = some x := fun _ h => h
  have he : (pq_P t σ (I, J, ri, rj, rq)).set q (a, .inr (k, (pq_fl σ.2.2.1 I J k a).set j (.int v))) = pq_P t σ (pq_u I f a v, J, ri, rj, rq) := pq_set hD hL hq (by rw [pq_o h13 hk]; exact congrArg _ (congrArg _ hset)) (fun b hb => pq_EI hb)
  refine va_put hx hb hts hin ty0 hty hnm hown hK hP hD hS q hq2 hc j hj hlink hsame hfin hd hn hfit hl hdg (fun H1 locs1 hP1 hD1 hS1 => ?_)
  exact kk _ H1 locs1 rfl (he ▸ hP1) (he ▸ hD1) hS1
/-- putfield of a long -/
theorem pp_l (hx : p.tables.exec = Jvm.exec) (hb : c.code = cc) {own C : String} {T : u_T} {N k index : Nat} {Ts : List Cond} (hts : ∀ w ∈ Ts, w.before args s = true) (hin : ∀ w ∈ u_ws C T N, w ∈ Ts) (ty0 : Nat → FieldType) (hty : ∀ k, k < N → parseFieldDescriptor (T k).2.2.1 = some (ty0 k)) (hnm : ∀ a, a < N → ∀ b, b < N → a ≠ b → (T a).2.1 ≠ (T b).2.1) (hown : s.vm.findClass own = some m.cls) (hK : va_K D vwCl (pq_ty t) s) (hP : va_P D vwCl (pq_P t σ (I, J, ri, rj, rq)) H) (hD : va_D A (pq_P t σ (I, J, ri, rj, rq))) (hS : va_S A H0 H locs) (hL : a ∈ σ.1) (hk : σ.2.1 a = k) (h13 : k < 13) (hc : vwCl[k]? = some (C, T, N)) (j f : Nat) (hj : j < N) (hlink : (Cond.fieldLink own index (T j).1 (T j).2.1 (T j).2.2.1).before args s = true) (hfin : (T j).2.2.2 = false) {v : Int64} (hd : parseFieldDescriptor (T j).2.2.1 = some .long) (hl : j < (pq_fl σ.2.2.1 I J k a).length) (hset : pq_fl σ.2.2.1 I (pq_u J f a v) k a = (pq_fl σ.2.2.1 I J k a).set j (.long v)) (hdg : decode cc pc = .ok (.putfield index, 3))
    (kk : ∀ (J1 : Nat → Nat → Int64) (H1 : Heap) (locs1 : List Loc), J1 = pq_u J f a v → va_P D vwCl (pq_P t σ (I, J1, ri, rj, rq)) H1 → va_D A (pq_P t σ (I, J1, ri, rj, rq)) → va_S A H0 H1 locs1 → W p l e R s m args below meth c H1 locs1 cells slots Q (F0 m (pc + 3) ls rest)) : W p l e R s m args below meth c H locs cells slots Q (F0 m pc ls (.long v :: .ref a :: rest)) := by
  obtain ⟨q, hq⟩ := pq_in (t := t) (μ := (I, J, ri, rj, rq)) hL
  have hq2 := hq
  rw [pq_o h13 hk] at hq2
  have hsame : ∀ x, s.fieldFound? (T j).1 (T j).2.1 (T j).2.2.1 = some x → s.fieldFound? (T j).1 (T j).2.1 (T j).2.2.1 = some x := fun _ h => h
  have he : (pq_P t σ (I, J, ri, rj, rq)).set q (a, .inr (k, (pq_fl σ.2.2.1 I J k a).set j (.long v))) = pq_P t σ (I, pq_u J f a v, ri, rj, rq) := pq_set hD hL hq (by rw [pq_o h13 hk]; exact congrArg _ (congrArg _ hset)) (fun b hb => pq_EJ hb)
  refine va_put hx hb hts hin ty0 hty hnm hown hK hP hD hS q hq2 hc j hj hlink hsame hfin hd rfl rfl hl hdg (fun H1 locs1 hP1 hD1 hS1 => ?_)
  exact kk _ H1 locs1 rfl (he ▸ hP1) (he ▸ hD1) hS1
/-- arrays of int -/
theorem pl_i (hx : p.tables.exec = Jvm.exec) (hb : c.code = cc) {μ : pq_M} (hK : va_K D vwCl (pq_ty t) s) (hP : va_P D vwCl (pq_P t σ μ) H) (hL : a ∈ σ.1) (hk : σ.2.1 a = 13) {n : Nat} (hn : σ.2.2.2 a = n) {i : Int32} (hin : vp_in i n) (hdg : decode cc pc = .ok (.iaload, 1))
    (kk : W p l e R s m args below meth c H locs cells slots Q (F0 m (pc + 1) ls (.int (μ.2.2.1 a i.toNatClampNeg) :: rest))) : W p l e R s m args below meth c H locs cells slots Q (F0 m pc ls (.int i :: .ref a :: rest)) := by
  subst hn
  obtain ⟨q, hq⟩ := pq_in (t := t) (μ := μ) hL
  rw [pq_oI hk] at hq
  exact va_iald hx hb hK hP q 0 hq rfl hin hdg kk
theorem pl_l (hx : p.tables.exec = Jvm.exec) (hb : c.code = cc) {μ : pq_M} (hK : va_K D vwCl (pq_ty t) s) (hP : va_P D vwCl (pq_P t σ μ) H) (hL : a ∈ σ.1) (hk : σ.2.1 a = 14) {n : Nat} (hn : σ.2.2.2 a = n) {i : Int32} (hin : vp_in i n) (hdg : decode cc pc = .ok (.laload, 1))
    (kk : W p l e R s m args below meth c H locs cells slots Q (F0 m (pc + 1) ls (.long (μ.2.2.2.1 a i.toNatClampNeg) :: rest))) : W p l e R s m args below meth c H locs cells slots Q (F0 m pc ls (.int i :: .ref a :: rest)) := by
  subst hn
  obtain ⟨q, hq⟩ := pq_in (t := t) (μ := μ) hL
  rw [pq_oJ hk] at hq
  exact va_lald hx hb hK hP q 1 hq rfl hin hdg kk
theorem pn_i (hx : p.tables.exec = Jvm.exec) (hb : c.code = cc) {μ : pq_M} (hK : va_K D vwCl (pq_ty t) s) (hP : va_P D vwCl (pq_P t σ μ) H) (hL : a ∈ σ.1) (hk : σ.2.1 a = 13) {n : Nat} (hn : σ.2.2.2 a = n) {v : Int32} (hv : Int32.ofNat n = v) (hdg : decode cc pc = .ok (.arraylength, 1))
    (kk : W p l e R s m args below meth c H locs cells slots Q (F0 m (pc + 1) ls (.int v :: rest))) : W p l e R s m args below meth c H locs cells slots Q (F0 m pc ls (.ref a :: rest)) := by
  subst hn
  obtain ⟨q, hq⟩ := pq_in (t := t) (μ := μ) hL
  rw [pq_oI hk] at hq
  exact va_alen hx hb hK hP q 0 hq (ty := .int) rfl hv hdg kk
theorem pt_i (hx : p.tables.exec = Jvm.exec) (hb : c.code = cc) (hK : va_K D vwCl (pq_ty t) s) (hP : va_P D vwCl (pq_P t σ (I, J, ri, rj, rq)) H) (hD : va_D A (pq_P t σ (I, J, ri, rj, rq))) (hS : va_S A H0 H locs) (hL : a ∈ σ.1) (hk : σ.2.1 a = 13) {n : Nat} (hn : σ.2.2.2 a = n) {i x : Int32} (hin : vp_in i n) (hdg : decode cc pc = .ok (.iastore, 1))
    (kk : ∀ (r1 : Nat → Nat → Int32) (H1 : Heap) (locs1 : List Loc), r1 = va_up ri a (upd (ri a) i.toNatClampNeg x) → va_P D vwCl (pq_P t σ (I, J, r1, rj, rq)) H1 → va_D A (pq_P t σ (I, J, r1, rj, rq)) → va_S A H0 H1 locs1 → W p l e R s m args below meth c H1 locs1 cells slots Q (F0 m (pc + 1) ls rest)) : W p l e R s m args below meth c H locs cells slots Q (F0 m pc ls (.int x :: .int i :: .ref a :: rest)) := by
  subst hn
  obtain ⟨q, hq⟩ := pq_in (t := t) (μ := (I, J, ri, rj, rq)) hL
  have hq2 := hq
  rw [pq_oI hk] at hq2
  have he : (pq_P t σ (I, J, ri, rj, rq)).set q (a, .inl (t.1, σ.2.2.2 a, .inl (upd (ri a) i.toNatClampNeg x))) = pq_P t σ (I, J, va_up ri a (upd (ri a) i.toNatClampNeg x), rj, rq) := pq_set hD hL hq (by rw [pq_oI hk]; simp only [va_up_self]) (fun b hb => pq_Ea hb)
  refine va_iast hx hb hK hP hD hS q 0 hq2 rfl hin hdg (fun H1 locs1 hP1 hD1 hS1 => ?_)
  exact kk _ H1 locs1 rfl (he ▸ hP1) (he ▸ hD1) hS1
theorem pt_l (hx : p.tables.exec = Jvm.exec) (hb : c.code = cc) (hK : va_K D vwCl (pq_ty t) s) (hP : va_P D vwCl (pq_P t σ (I, J, ri, rj, rq)) H) (hD : va_D A (pq_P t σ (I, J, ri, rj, rq))) (hS : va_S A H0 H locs) (hL : a ∈ σ.1) (hk : σ.2.1 a = 14) {n : Nat} (hn : σ.2.2.2 a = n) {i : Int32} {x : Int64} (hin : vp_in i n) (hdg : decode cc pc = .ok (.lastore, 1))
    (kk : ∀ (r1 : Nat → Nat → Int64) (H1 : Heap) (locs1 : List Loc), r1 = va_up rj a (vp_updL (rj a) i.toNatClampNeg x) → va_P D vwCl (pq_P t σ (I, J, ri, r1, rq)) H1 → va_D A (pq_P t σ (I, J, ri, r1, rq)) → va_S A H0 H1 locs1 → W p l e R s m args below meth c H1 locs1 cells slots Q (F0 m (pc + 1) ls rest)) : W p l e R s m args below meth c H locs cells slots Q (F0 m pc ls (.long x :: .int i :: .ref a :: rest)) := by
  subst hn
  obtain ⟨q, hq⟩ := pq_in (t := t) (μ := (I, J, ri, rj, rq)) hL
  have hq2 := hq
  rw [pq_oJ hk] at hq2
  have he : (pq_P t σ (I, J, ri, rj, rq)).set q (a, .inl (t.2.1, σ.2.2.2 a, .inr (.inl (vp_updL (rj a) i.toNatClampNeg x)))) = pq_P t σ (I, J, ri, va_up rj a (vp_updL (rj a) i.toNatClampNeg x), rq) := pq_set hD hL hq (by rw [pq_oJ hk]; simp only [va_up_self]) (fun b hb => pq_Eb hb)
  refine va_last hx hb hK hP hD hS q 1 hq2 rfl hin hdg (fun H1 locs1 hP1 hD1 hS1 => ?_)
  exact kk _ H1 locs1 rfl (he ▸ hP1) (he ▸ hD1) hS1
end PQ
/-! contracts over the pool -/
def pq_N (U : State) : Prop := (∀ x ∈ pq_nl, va_Nw (.methodLinkNest x.1 x.2.1 x.2.2 "RingsUnder") U) ∧ va_AO "RingsUnder$Text" U
theorem pq_N.warm {s U : State} (hW : s.WarmedH U.vm) (h : pq_N s) : pq_N U := ⟨fun x hx => va_Nw.warmM hW (h.1 x hx), va_AO.moved hW.alike h.2⟩
theorem pq_N.same {u U : State} (hv : u.vm = U.vm) (h : pq_N u) : pq_N U := ⟨fun x hx => va_Nw.same rfl hv (h.1 x hx), va_AO.moved (by rw [hv]; exact Vm.Alike.refl _) h.2⟩
def pq_In (D : va_G) (t : pq_T) (σ : pq_S) (μ : pq_M) (sz : Nat) (U : State) : Prop := U.heap.size = sz ∧ va_P D vwCl (pq_P t σ μ) U.heap ∧ va_K D vwCl (pq_ty t) U ∧ va_D (fun _ => True) (pq_P t σ μ) ∧ pq_N U
def pq_Ou (D : va_G) (t : pq_T) (A : Nat → Prop) (u : pq_S × pq_M) (U : State) : Prop := va_P D vwCl (pq_P t u.1 u.2) U.heap ∧ va_K D vwCl (pq_ty t) U ∧ va_D A (pq_P t u.1 u.2)
theorem pq_blind {D : va_G} {t : pq_T} {σ : pq_S} {μ : pq_M} {sz : Nat} {As : List Value} : FrameBlind (va_Pc As (pq_In D t σ μ sz)) := fun a U g mk q => by
  obtain ⟨q0, q1, qP, qK, qD, qN⟩ := q
  exact ⟨q0, q1, qP, va_K.moved (u := U) (U := U.calling g mk a) (Vm.Alike.refl U.vm) qK, qD, qN.same rfl⟩
theorem pq_pre {D : va_G} {t : pq_T} {σ : pq_S} {μ : pq_M} {A : Nat → Prop} {s : State} {H : Heap} {As : List Value} (hK : va_K D vwCl (pq_ty t) s) (hN : pq_N s) (hP : va_P D vwCl (pq_P t σ μ) H) (hD : va_D A (pq_P t σ μ)) : ∀ U : State, U.heap = H → s.WarmedH U.vm → va_Pc As (pq_In D t σ μ H.size) As.toArray U := fun U hU hW => ⟨rfl, by rw [hU], by rw [hU]; exact hP, va_K.moved hW.alike hK, hD.weaken (fun _ _ _ _ => trivial), hN.warm hW⟩
theorem pq_recv {D : va_G} {t : pq_T} {σ : pq_S} {μ : pq_M} {s : State} {H : Heap} {b k : Nat} {r : vw_C} (hK : va_K D vwCl (pq_ty t) s) (hP : va_P D vwCl (pq_P t σ μ) H) (hL : b ∈ σ.1) (hk : σ.2.1 b = k) (h13 : k < 13) (hc : vwCl[k]? = some r) : ∃ cellB : Cell, H[b]? = some cellB ∧ cellB.vm.isStatics = false ∧ s.vm.findClass r.1 = some cellB.cls := by
  obtain ⟨q, hq⟩ := pq_in (t := t) (μ := μ) hL
  rw [pq_o h13 hk] at hq
  exact va_recv hK hP hc hq
theorem pq_A {D : va_G} {t : pq_T} {σ : pq_S} {μ : pq_M} {A : Nat → Prop} {H0 H : Heap} {locs : List Loc} (hD : va_D A (pq_P t σ μ)) (hS : va_S A H0 H locs) (hA : ∀ q, H0.size ≤ q → A q) : ∀ q, va_A (pq_P t σ μ) H.size q → A q := fun q h => by
  rcases h with ⟨k, e, h⟩ | h
  · exact hD.2 k (q, e) h
  · exact hA q (Nat.le_trans hS.1 h)
abbrev pq_B (t : pq_T) (σ : pq_S) (μ : pq_M) (sz : Nat) : Nat → Prop := va_A (pq_P t σ μ) sz
abbrev MetI (l : Launch) (y : MethodName) (ws : List Cond) (rm : Room) (As : List Value) (D : va_G) (t : pq_T) (σ : pq_S) (μ : pq_M) (sz mc ms : Nat) (post : Int32 → pq_S × pq_M → Prop) : Prop := Met l y ws rm (va_Pc As (pq_In D t σ μ sz)) (va_Qi post (pq_Ou D t (pq_B t σ μ sz)) (pq_B t σ μ sz)) mc ms (pq_B t σ μ sz)
abbrev MetL (l : Launch) (y : MethodName) (ws : List Cond) (rm : Room) (As : List Value) (D : va_G) (t : pq_T) (σ : pq_S) (μ : pq_M) (sz mc ms : Nat) (post : Int64 → pq_S × pq_M → Prop) : Prop := Met l y ws rm (va_Pc As (pq_In D t σ μ sz)) (va_Ql post (pq_Ou D t (pq_B t σ μ sz)) (pq_B t σ μ sz)) mc ms (pq_B t σ μ sz)
abbrev MetV (l : Launch) (y : MethodName) (ws : List Cond) (rm : Room) (As : List Value) (D : va_G) (t : pq_T) (σ : pq_S) (μ : pq_M) (sz mc ms : Nat) (post : pq_S × pq_M → Prop) : Prop := Met l y ws rm (va_Pc As (pq_In D t σ μ sz)) (va_Qv post (pq_Ou D t (pq_B t σ μ sz)) (pq_B t σ μ sz)) mc ms (pq_B t σ μ sz)
abbrev MetQ (l : Launch) (y : MethodName) (ws : List Cond) (rm : Room) (As : List Value) (D : va_G) (t : pq_T) (σ : pq_S) (μ : pq_M) (sz mc ms : Nat) (post : Option Nat → pq_S × pq_M → Prop) : Prop := Met l y ws rm (va_Pc As (pq_In D t σ μ sz)) (va_Qq post (pq_Ou D t (pq_B t σ μ sz)) (pq_B t σ μ sz)) mc ms (pq_B t σ μ sz)
section PQC
variable {p : Program} {l : Launch} {e : Env} {R : Room} {s : State} {m : MethodId} {args : Array Value} {below : List Frame} {meth : Method} {c : Code} {H : Heap} {locs : List Loc} {cells slots : Nat} {Q : State → Prop}
variable {pc : Nat} {ls : Array Slot} {rest st0 : List Value} {D : va_G} {A : Nat → Prop} {t : pq_T} {σ : pq_S} {μ : pq_M} {H0 : Heap} {mc ms : Nat} {av : Array Value}
theorem pk_i {post : Int32 → pq_S × pq_M → Prop} (hr : va_Run p l e R s m args below meth c H locs cells slots mc ms (F0 m pc ls st0) rest (va_Qi post (pq_Ou D t (pq_B t σ μ H.size)) (pq_B t σ μ H.size) av) (pq_B t σ μ H.size)) (hD : va_D A (pq_P t σ μ)) (hS : va_S A H0 H locs) (hA : ∀ q, H0.size ≤ q → A q)
    (kk : ∀ (r : Int32) (σ1 : pq_S) (μ1 : pq_M) (H1 : Heap) (locs1 : List Loc), post r (σ1, μ1) → va_P D vwCl (pq_P t σ1 μ1) H1 → va_D A (pq_P t σ1 μ1) → va_S A H0 H1 locs1 → W p l e R s m args below meth c H1 locs1 (cells + mc) (slots + ms) Q (F0 m (pc + 3) ls (.int r :: rest))) : W p l e R s m args below meth c H locs cells slots Q (F0 m pc ls st0) := by
  have hF := pq_A (D := D) hD hS hA
  refine va_calli hr hS (fun q _ h => hF q h) hF (fun r u t1 H1 locs1 ht hvm hw hB hz hk hS1 => ?_)
  obtain ⟨hP1, -, hD1⟩ := hB
  exact kk r u.1 u.2 H1 locs1 hw (by rw [← ht]; exact hP1) (hD1.weaken (fun _ q _ h => hF q.1 h)) hS1
theorem pk_l {post : Int64 → pq_S × pq_M → Prop} (hr : va_Run p l e R s m args below meth c H locs cells slots mc ms (F0 m pc ls st0) rest (va_Ql post (pq_Ou D t (pq_B t σ μ H.size)) (pq_B t σ μ H.size) av) (pq_B t σ μ H.size)) (hD : va_D A (pq_P t σ μ)) (hS : va_S A H0 H locs) (hA : ∀ q, H0.size ≤ q → A q)
    (kk : ∀ (r : Int64) (σ1 : pq_S) (μ1 : pq_M) (H1 : Heap) (locs1 : List Loc), post r (σ1, μ1) → va_P D vwCl (pq_P t σ1 μ1) H1 → va_D A (pq_P t σ1 μ1) → va_S A H0 H1 locs1 → W p l e R s m args below meth c H1 locs1 (cells + mc) (slots + ms) Q (F0 m (pc + 3) ls (.long r :: rest))) : W p l e R s m args below meth c H locs cells slots Q (F0 m pc ls st0) := by
  have hF := pq_A (D := D) hD hS hA
  refine va_calll hr hS (fun q _ h => hF q h) hF (fun r u t1 H1 locs1 ht hvm hw hB hz hk hS1 => ?_)
  obtain ⟨hP1, -, hD1⟩ := hB
  exact kk r u.1 u.2 H1 locs1 hw (by rw [← ht]; exact hP1) (hD1.weaken (fun _ q _ h => hF q.1 h)) hS1
theorem pk_v {post : pq_S × pq_M → Prop} (hr : va_Run p l e R s m args below meth c H locs cells slots mc ms (F0 m pc ls st0) rest (va_Qv post (pq_Ou D t (pq_B t σ μ H.size)) (pq_B t σ μ H.size) av) (pq_B t σ μ H.size)) (hD : va_D A (pq_P t σ μ)) (hS : va_S A H0 H locs) (hA : ∀ q, H0.size ≤ q → A q)
    (kk : ∀ (σ1 : pq_S) (μ1 : pq_M) (H1 : Heap) (locs1 : List Loc), post (σ1, μ1) → va_P D vwCl (pq_P t σ1 μ1) H1 → va_D A (pq_P t σ1 μ1) → va_S A H0 H1 locs1 → W p l e R s m args below meth c H1 locs1 (cells + mc) (slots + ms) Q (F0 m (pc + 3) ls rest)) : W p l e R s m args below meth c H locs cells slots Q (F0 m pc ls st0) := by
  have hF := pq_A (D := D) hD hS hA
  refine va_callv hr hS (fun q _ h => hF q h) hF (fun u t1 H1 locs1 ht hvm hw hB hz hk hS1 => ?_)
  obtain ⟨hP1, -, hD1⟩ := hB
  exact kk u.1 u.2 H1 locs1 hw (by rw [← ht]; exact hP1) (hD1.weaken (fun _ q _ h => hF q.1 h)) hS1
end PQC
section PQD
variable {p : Program} {l : Launch} {e : Env} {R : Room} {s : State} {m : MethodId} {args : Array Value} {below : List Frame} {meth : Method} {c : Code} {H : Heap} {locs : List Loc} {cells slots : Nat} {Q : State → Prop}
variable {cc : ByteArray} {pc : Nat} {ls : Array Slot} {rest : List Value} {D : va_G} {A : Nat → Prop} {a : Nat} {t : pq_T} {σ : pq_S} {H0 : Heap}
variable {I : Nat → Nat → Int32} {J : Nat → Nat → Int64} {ri : Nat → Nat → Int32} {rj : Nat → Nat → Int64} {rq : Nat → Nat → Option Nat}
/-- System.arraycopy from the start of one array of int to the start of another -/
theorem pc_i (hx : p.tables.exec = Jvm.exec) (hb : c.code = cc) (hml : c.maxLocals = ls.size) {own : String} {index : Nat} (hown : s.vm.findClass own = some m.cls) (hlink : (Cond.methodLink own index arraycopyName).before args s = true) (hnat : (Cond.native arraycopyName).before args s = true) (hstat : (Cond.static arraycopyName).before args s = true) (hini : (Cond.initialized "java/lang/System").before args s = true)
    (hK : va_K D vwCl (pq_ty t) s) (hP : va_P D vwCl (pq_P t σ (I, J, ri, rj, rq)) H) (hD : va_D A (pq_P t σ (I, J, ri, rj, rq))) (hS : va_S A H0 H locs) {a0 n0 n1 : Nat} (hL0 : a0 ∈ σ.1) (hk0 : σ.2.1 a0 = 13) (hn0 : σ.2.2.2 a0 = n0) (hL : a ∈ σ.1) (hk : σ.2.1 a = 13) (hn1 : σ.2.2.2 a = n1) {sp n : Int32} (h1 : ¬ sp < 0) (h3 : ¬ n < 0) (h4 : sp.toNatClampNeg + n.toNatClampNeg ≤ n0) (h5 : n.toNatClampNeg ≤ n1)
    (hframes : 1 ≤ R.frames) (hlocals : (rest.map fun v => v.category).sum + (nativeFrameWords "java/lang/System" "arraycopy" 5 + 11) ≤ R.locals) (hdg : decode cc pc = .ok (.invokestatic index, 3))
    (kk : ∀ (r1 : Nat → Nat → Int32) (H1 : Heap) (locs1 : List Loc), r1 = va_up ri a (va_cpy (ri a0) (ri a) sp.toNatClampNeg 0 n.toNatClampNeg) → va_P D vwCl (pq_P t σ (I, J, r1, rj, rq)) H1 → va_D A (pq_P t σ (I, J, r1, rj, rq)) → va_S A H0 H1 locs1 → W p l e R s m args below meth c H1 locs1 cells slots Q (F0 m (pc + 3) ls rest)) : W p l e R s m args below meth c H locs cells slots Q (F0 m pc ls (.int n :: .int 0 :: .ref a :: .int sp :: .ref a0 :: rest)) := by
  subst hn0; subst hn1
  obtain ⟨q0, hq0⟩ := pq_in (t := t) (μ := (I, J, ri, rj, rq)) hL0
  obtain ⟨q, hq⟩ := pq_in (t := t) (μ := (I, J, ri, rj, rq)) hL
  have hq2 := hq
  rw [pq_oI hk] at hq2
  rw [pq_oI hk0] at hq0
  have he : (pq_P t σ (I, J, ri, rj, rq)).set q (a, .inl (t.1, σ.2.2.2 a, .inl (va_cpy (ri a0) (ri a) sp.toNatClampNeg (0 : Int32).toNatClampNeg n.toNatClampNeg))) = pq_P t σ (I, J, va_up ri a (va_cpy (ri a0) (ri a) sp.toNatClampNeg 0 n.toNatClampNeg), rj, rq) := pq_set hD hL hq (by rw [pq_oI hk]; simp only [va_up_self]; rfl) (fun b hb => pq_Ea hb)
  refine va_copyi hx hb hml hown hlink hnat hstat hini hK hP hD hS q0 q 0 0 hq0 hq2 rfl rfl rfl h1 (by decide) h3 h4 (by simpa using h5) (fun i _ => rfl) hframes hlocals hdg (fun H1 locs1 hP1 hD1 hS1 => ?_)
  exact kk _ H1 locs1 rfl (he ▸ hP1) (he ▸ hD1) hS1
theorem pc_l (hx : p.tables.exec = Jvm.exec) (hb : c.code = cc) (hml : c.maxLocals = ls.size) {own : String} {index : Nat} (hown : s.vm.findClass own = some m.cls) (hlink : (Cond.methodLink own index arraycopyName).before args s = true) (hnat : (Cond.native arraycopyName).before args s = true) (hstat : (Cond.static arraycopyName).before args s = true) (hini : (Cond.initialized "java/lang/System").before args s = true)
    (hK : va_K D vwCl (pq_ty t) s) (hP : va_P D vwCl (pq_P t σ (I, J, ri, rj, rq)) H) (hD : va_D A (pq_P t σ (I, J, ri, rj, rq))) (hS : va_S A H0 H locs) {a0 n0 n1 : Nat} (hL0 : a0 ∈ σ.1) (hk0 : σ.2.1 a0 = 14) (hn0 : σ.2.2.2 a0 = n0) (hL : a ∈ σ.1) (hk : σ.2.1 a = 14) (hn1 : σ.2.2.2 a = n1) {sp n : Int32} (h1 : ¬ sp < 0) (h3 : ¬ n < 0) (h4 : sp.toNatClampNeg + n.toNatClampNeg ≤ n0) (h5 : n.toNatClampNeg ≤ n1)
    (hframes : 1 ≤ R.frames) (hlocals : (rest.map fun v => v.category).sum + (nativeFrameWords "java/lang/System" "arraycopy" 5 + 11) ≤ R.locals) (hdg : decode cc pc = .ok (.invokestatic index, 3))
    (kk : ∀ (r1 : Nat → Nat → Int64) (H1 : Heap) (locs1 : List Loc), r1 = va_up rj a (va_cpy (rj a0) (rj a) sp.toNatClampNeg 0 n.toNatClampNeg) → va_P D vwCl (pq_P t σ (I, J, ri, r1, rq)) H1 → va_D A (pq_P t σ (I, J, ri, r1, rq)) → va_S A H0 H1 locs1 → W p l e R s m args below meth c H1 locs1 cells slots Q (F0 m (pc + 3) ls rest)) : W p l e R s m args below meth c H locs cells slots Q (F0 m pc ls (.int n :: .int 0 :: .ref a :: .int sp :: .ref a0 :: rest)) := by
  subst hn0; subst hn1
  obtain ⟨q0, hq0⟩ := pq_in (t := t) (μ := (I, J, ri, rj, rq)) hL0
  obtain ⟨q, hq⟩ := pq_in (t := t) (μ := (I, J, ri, rj, rq)) hL
  have hq2 := hq
  rw [pq_oJ hk] at hq2
  rw [pq_oJ hk0] at hq0
  have he : (pq_P t σ (I, J, ri, rj, rq)).set q (a, .inl (t.2.1, σ.2.2.2 a, .inr (.inl (va_cpy (rj a0) (rj a) sp.toNatClampNeg (0 : Int32).toNatClampNeg n.toNatClampNeg)))) = pq_P t σ (I, J, ri, va_up rj a (va_cpy (rj a0) (rj a) sp.toNatClampNeg 0 n.toNatClampNeg), rq) := pq_set hD hL hq (by rw [pq_oJ hk]; simp only [va_up_self]; rfl) (fun b hb => pq_Eb hb)
  refine va_copyl hx hb hml hown hlink hnat hstat hini hK hP hD hS q0 q 1 1 hq0 hq2 rfl rfl rfl h1 (by decide) h3 h4 (by simpa using h5) (fun i _ => rfl) hframes hlocals hdg (fun H1 locs1 hP1 hD1 hS1 => ?_)
  exact kk _ H1 locs1 rfl (he ▸ hP1) (he ▸ hD1) hS1
theorem pk_q {post : Option Nat → pq_S × pq_M → Prop} {st0 : List Value} {μ : pq_M} {mc ms : Nat} {av : Array Value} (hr : va_Run p l e R s m args below meth c H locs cells slots mc ms (F0 m pc ls st0) rest (va_Qq post (pq_Ou D t (pq_B t σ μ H.size)) (pq_B t σ μ H.size) av) (pq_B t σ μ H.size)) (hD : va_D A (pq_P t σ μ)) (hS : va_S A H0 H locs) (hA : ∀ q, H0.size ≤ q → A q)
    (kk : ∀ (r : Option Nat) (σ1 : pq_S) (μ1 : pq_M) (H1 : Heap) (locs1 : List Loc), post r (σ1, μ1) → va_P D vwCl (pq_P t σ1 μ1) H1 → va_D A (pq_P t σ1 μ1) → va_S A H0 H1 locs1 → W p l e R s m args below meth c H1 locs1 (cells + mc) (slots + ms) Q (F0 m (pc + 3) ls (va_rf r :: rest))) : W p l e R s m args below meth c H locs cells slots Q (F0 m pc ls st0) := by
  have hF := pq_A (D := D) hD hS hA
  refine va_callq hr hS (fun q _ h => hF q h) hF (fun r u t1 H1 locs1 ht hvm hw hB hz hk hS1 => ?_)
  obtain ⟨hP1, -, hD1⟩ := hB
  exact kk r u.1 u.2 H1 locs1 hw (by rw [← ht]; exact hP1) (hD1.weaken (fun _ q _ h => hF q.1 h)) hS1
end PQD
/-! ===== making cells ===== -/
def pq_nf (k : Nat) : List Value := pq_fl (fun _ _ => none) (fun _ _ => 0) (fun _ _ => 0) k 0
def pq_R0 (R : Nat → Nat → Option Nat) (q : Nat) : Nat → Nat → Option Nat := fun f => va_up (R f) q none
def pq_I0 (I : Nat → Nat → Int32) (q : Nat) : Nat → Nat → Int32 := fun f => va_up (I f) q 0
def pq_J0 (J : Nat → Nat → Int64) (q : Nat) : Nat → Nat → Int64 := fun f => va_up (J f) q 0
theorem pq_fl0 {R : Nat → Nat → Option Nat} {I : Nat → Nat → Int32} {J : Nat → Nat → Int64} {k q : Nat} : pq_fl (pq_R0 R q) (pq_I0 I q) (pq_J0 J q) k q = pq_nf k := by
  unfold pq_nf pq_fl pq_R0 pq_I0 pq_J0
  split <;> simp only [va_up_self]
theorem pq_fl1 {R : Nat → Nat → Option Nat} {I : Nat → Nat → Int32} {J : Nat → Nat → Int64} {k q b : Nat} (h : b ≠ q) : pq_fl (pq_R0 R q) (pq_I0 I q) (pq_J0 J q) k b = pq_fl R I J k b := by
  unfold pq_fl pq_R0 pq_I0 pq_J0
  split <;> simp only [va_up_ne _ _ h]
/-- an object comes to the pool -/
theorem pq_no {t : pq_T} {σ : pq_S} {I : Nat → Nat → Int32} {J : Nat → Nat → Int64} {r : (Nat → Nat → Int32) × (Nat → Nat → Int64) × (Nat → Nat → Option Nat)} {q k : Nat} (hk : k < 13) (hq : q ∉ σ.1) : pq_P t σ (I, J, r) ++ [(q, .inr (k, pq_nf k))] = pq_P t (σ.1 ++ [q], va_up σ.2.1 q k, pq_R0 σ.2.2.1 q, σ.2.2.2) (pq_I0 I q, pq_J0 J q, r) := by
  refine (va_pl_push hq).trans (va_pl_congr (fun b => ?_))
  by_cases hb : b = q
  · subst hb
    rw [va_up_self, pq_o hk (by exact va_up_self _ _ _)]
    exact congrArg _ (congrArg _ pq_fl0.symm)
  · rw [va_up_ne _ _ hb]
    unfold pq_E
    simp only [va_up_ne _ _ hb, pq_fl1 hb]
/-- an array of int comes to the pool -/
theorem pq_ni {t : pq_T} {σ : pq_S} {I : Nat → Nat → Int32} {J : Nat → Nat → Int64} {ri : Nat → Nat → Int32} {r : (Nat → Nat → Int64) × (Nat → Nat → Option Nat)} {q n : Nat} (hq : q ∉ σ.1) : pq_P t σ (I, J, ri, r) ++ [(q, .inl (t.1, n, .inl (fun _ => 0)))] = pq_P t (σ.1 ++ [q], va_up σ.2.1 q 13, σ.2.2.1, va_up σ.2.2.2 q n) (I, J, va_up ri q (fun _ => 0), r) := by
  refine (va_pl_push hq).trans (va_pl_congr (fun b => ?_))
  by_cases hb : b = q
  · subst hb
    rw [va_up_self, pq_oI (by exact va_up_self _ _ _)]
    simp only [va_up_self]
  · rw [va_up_ne _ _ hb]
    unfold pq_E
    simp only [va_up_ne _ _ hb]
theorem pq_nz {t : pq_T} {σ : pq_S} {I : Nat → Nat → Int32} {J : Nat → Nat → Int64} {ri : Nat → Nat → Int32} {r : (Nat → Nat → Int64) × (Nat → Nat → Option Nat)} {q n : Nat} (hq : q ∉ σ.1) : pq_P t σ (I, J, ri, r) ++ [(q, .inl (t.2.2.1, n, .inl (fun _ => 0)))] = pq_P t (σ.1 ++ [q], va_up σ.2.1 q 15, σ.2.2.1, va_up σ.2.2.2 q n) (I, J, va_up ri q (fun _ => 0), r) := by
  refine (va_pl_push hq).trans (va_pl_congr (fun b => ?_))
  by_cases hb : b = q
  · subst hb
    rw [va_up_self, pq_oZ (by exact va_up_self _ _ _)]
    simp only [va_up_self]
  · rw [va_up_ne _ _ hb]
    unfold pq_E
    simp only [va_up_ne _ _ hb]
theorem pq_nl2 {t : pq_T} {σ : pq_S} {I : Nat → Nat → Int32} {J : Nat → Nat → Int64} {ri : Nat → Nat → Int32} {rj : Nat → Nat → Int64} {rq : Nat → Nat → Option Nat} {q n : Nat} (hq : q ∉ σ.1) : pq_P t σ (I, J, ri, rj, rq) ++ [(q, .inl (t.2.1, n, .inr (.inl (fun _ => 0))))] = pq_P t (σ.1 ++ [q], va_up σ.2.1 q 14, σ.2.2.1, va_up σ.2.2.2 q n) (I, J, ri, va_up rj q (fun _ => 0), rq) := by
  refine (va_pl_push hq).trans (va_pl_congr (fun b => ?_))
  by_cases hb : b = q
  · subst hb
    rw [va_up_self, pq_oJ (by exact va_up_self _ _ _)]
    simp only [va_up_self]
  · rw [va_up_ne _ _ hb]
    unfold pq_E
    simp only [va_up_ne _ _ hb]
theorem pq_nq {t : pq_T} {σ : pq_S} {I : Nat → Nat → Int32} {J : Nat → Nat → Int64} {ri : Nat → Nat → Int32} {rj : Nat → Nat → Int64} {rq : Nat → Nat → Option Nat} {q n : Nat} (hq : q ∉ σ.1) : pq_P t σ (I, J, ri, rj, rq) ++ [(q, .inl (t.2.2.2, n, .inr (.inr (.inr (.inr (fun _ => none))))))] = pq_P t (σ.1 ++ [q], va_up σ.2.1 q 16, σ.2.2.1, va_up σ.2.2.2 q n) (I, J, ri, rj, va_up rq q (fun _ => none)) := by
  refine (va_pl_push hq).trans (va_pl_congr (fun b => ?_))
  by_cases hb : b = q
  · subst hb
    rw [va_up_self, pq_oQ (by exact va_up_self _ _ _)]
    simp only [va_up_self]
  · rw [va_up_ne _ _ hb]
    unfold pq_E
    simp only [va_up_ne _ _ hb]
/-- the tables' array class of a type is one -/
theorem pq_cu {D : va_G} {t1 : List (ClassId × FieldType)} {U : State} {c1 c2 : ClassId} {ty : FieldType} {i : Nat} (h1 : va_K D vwCl t1 U) (hi : t1[i]? = some (c1, ty)) {t2 : List (ClassId × FieldType)} (h2 : va_K D vwCl (t2 ++ [(c2, ty)]) U) : c2 = c1 := by
  have a1 := (h1.2 i _ hi).2
  have a2 := (h2.2 t2.length _ (by rw [List.getElem?_append_right (Nat.le_refl _), Nat.sub_self]; rfl)).2
  cases ty with
  | object C =>
    obtain ⟨_, _, -, -, -, b1⟩ := a1
    obtain ⟨_, _, -, -, -, b2⟩ := a2
    exact Option.some.inj (b2.symm.trans b1)
  | _ => exact Option.some.inj (a2.symm.trans a1)
section PQN
variable {p : Program} {l : Launch} {e : Env} {R : Room} {s : State} {m : MethodId} {args : Array Value} {below : List Frame} {meth : Method} {c : Code} {H : Heap} {locs : List Loc} {cells slots : Nat} {Q : State → Prop}
variable {cc : ByteArray} {pc : Nat} {ls : Array Slot} {rest : List Value} {D : va_G} {A : Nat → Prop} {a : Nat} {t : pq_T} {σ : pq_S} {H0 : Heap}
variable {I : Nat → Nat → Int32} {J : Nat → Nat → Int64} {ri : Nat → Nat → Int32} {rj : Nat → Nat → Int64} {rq : Nat → Nat → Option Nat}
end PQN
