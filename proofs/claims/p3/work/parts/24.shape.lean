/-! ===== making the objects: what stands where, and what stays ===== -/
/-- from one shape to the next, but for field f of the cell a: the cells that were there stay as they were -/
def Es (f a : Nat) (σ σ' : pq_S) (I I' : Nat → Nat → Int32) : Prop := ∀ b, b ∈ σ.1 → b ∈ σ'.1 ∧ σ'.2.1 b = σ.2.1 b ∧ σ'.2.2.2 b = σ.2.2.2 b ∧ (∀ g, (g ≠ f ∨ b ≠ a) → σ'.2.2.1 g b = σ.2.2.1 g b) ∧ ∀ g, I' g b = I g b
/-- the same, but for the whole cell a -/
def Et (a : Nat) (σ σ' : pq_S) (I I' : Nat → Nat → Int32) : Prop := ∀ b, b ∈ σ.1 → b ∈ σ'.1 ∧ σ'.2.1 b = σ.2.1 b ∧ σ'.2.2.2 b = σ.2.2.2 b ∧ (b ≠ a → (∀ g, σ'.2.2.1 g b = σ.2.2.1 g b) ∧ ∀ g, I' g b = I g b)
theorem Et_rf {a : Nat} {σ : pq_S} {I : Nat → Nat → Int32} : Et a σ σ I I := fun _ h => ⟨h, rfl, rfl, fun _ => ⟨fun _ => rfl, fun _ => rfl⟩⟩
theorem Et_es {f a : Nat} {σ σ1 σ2 : pq_S} {I I1 I2 : Nat → Nat → Int32} (h : Et a σ σ1 I I1) (h2 : Es f a σ1 σ2 I1 I2) : Et a σ σ2 I I2 := fun b hb => by
  obtain ⟨a1, a2, a3, a4⟩ := h b hb
  obtain ⟨b1, b2, b3, b4, b5⟩ := h2 b a1
  exact ⟨b1, b2.trans a2, b3.trans a3, fun hn => ⟨fun g => (b4 g (Or.inr hn)).trans ((a4 hn).1 g), fun g => (b5 g).trans ((a4 hn).2 g)⟩⟩
theorem Et_put {f a : Nat} {σ σ1 : pq_S} {I I1 I2 : Nat → Nat → Int32} {v : Int32} (h : Et a σ σ1 I I1) (e : I2 = pq_u I1 f a v) : Et a σ σ1 I I2 := fun b hb => by
  obtain ⟨a1, a2, a3, a4⟩ := h b hb
  exact ⟨a1, a2, a3, fun hn => ⟨(a4 hn).1, fun g => by rw [e, pq_ua _ _ _ _ hn]; exact (a4 hn).2 g⟩⟩
theorem Es_at {f a b : Nat} {σ σ' : pq_S} {I I' : Nat → Nat → Int32} (h : Es f a σ σ' I I') (hb : b ∈ σ.1) : b ∈ σ'.1 := (h b hb).1
theorem Es_k {f a b k : Nat} {σ σ' : pq_S} {I I' : Nat → Nat → Int32} (h : Es f a σ σ' I I') (hb : b ∈ σ.1) (hk : σ.2.1 b = k) : σ'.2.1 b = k := (h b hb).2.1.trans hk
theorem Es_i {f a b g : Nat} {v : Int32} {σ σ' : pq_S} {I I' : Nat → Nat → Int32} (h : Es f a σ σ' I I') (hb : b ∈ σ.1) (hv : I g b = v) : I' g b = v := ((h b hb).2.2.2.2 g).trans hv
/-- a field holds a row of n places, of kind k -/
def okA (σ : pq_S) (g b k n : Nat) : Prop := b ∈ σ.1 ∧ ∃ q, σ.2.2.1 g b = some q ∧ q ∈ σ.1 ∧ σ.2.1 q = k ∧ σ.2.2.2 q = n
/-- a field holds an object of kind k of which P holds -/
def okO (σ : pq_S) (g b k : Nat) (P : Nat → Prop) : Prop := b ∈ σ.1 ∧ ∃ q, σ.2.2.1 g b = some q ∧ q ∈ σ.1 ∧ σ.2.1 q = k ∧ P q
theorem okA_es {f a g b k n : Nat} {σ σ' : pq_S} {I I' : Nat → Nat → Int32} (h : Es f a σ σ' I I') (hf : g ≠ f) (x : okA σ g b k n) : okA σ' g b k n := by
  obtain ⟨x1, q, x2, x3, x4, x5⟩ := x
  obtain ⟨b1, b2, b3, b4, -⟩ := h b x1
  obtain ⟨q1, q2, q3, -, -⟩ := h q x3
  exact ⟨b1, q, (b4 g (Or.inl hf)).trans x2, q1, q2.trans x4, q3.trans x5⟩
theorem okO_es {f a g b k : Nat} {P P' : Nat → Prop} {σ σ' : pq_S} {I I' : Nat → Nat → Int32} (h : Es f a σ σ' I I') (hf : g ≠ f) (hP : ∀ q, P q → P' q) (x : okO σ g b k P) : okO σ' g b k P' := by
  obtain ⟨x1, q, x2, x3, x4, x5⟩ := x
  obtain ⟨b1, b2, b3, b4, -⟩ := h b x1
  obtain ⟨q1, q2, q3, -, -⟩ := h q x3
  exact ⟨b1, q, (b4 g (Or.inl hf)).trans x2, q1, q2.trans x4, hP q x5⟩
/-- a new row stands in field f of a -/
def As (f a q k n : Nat) (σ σ1 : pq_S) : Prop := q ∉ σ.1 ∧ σ1 = (σ.1 ++ [q], va_up σ.2.1 q k, pq_u σ.2.2.1 f a (some q), va_up σ.2.2.2 q n)
theorem As_es {f a q k n : Nat} {σ σ1 : pq_S} {I : Nat → Nat → Int32} (h : As f a q k n σ σ1) : Es f a σ σ1 I I := fun b hb => by
  obtain ⟨h1, rfl⟩ := h
  have hne : b ≠ q := fun z => h1 (z ▸ hb)
  refine ⟨List.mem_append_left _ hb, va_up_ne _ _ hne, va_up_ne _ _ hne, fun g hg => ?_, fun _ => rfl⟩
  show pq_u σ.2.2.1 f a (some q) g b = _
  rcases hg with hg | hg
  · rw [pq_uf _ _ _ hg]
  · exact pq_ua _ _ _ _ hg
theorem As_ok {f a q k n : Nat} {σ σ1 : pq_S} (h : As f a q k n σ σ1) (ha : a ∈ σ.1) : okA σ1 f a k n := by
  obtain ⟨h1, rfl⟩ := h
  exact ⟨List.mem_append_left _ ha, q, pq_us _ _ _ _, List.mem_append_right _ (List.mem_singleton.mpr rfl), va_up_self _ _ _, va_up_self _ _ _⟩
/-- a new object: blank -/
def Ns (q k : Nat) (σ σ1 : pq_S) (I I1 : Nat → Nat → Int32) : Prop := q ∉ σ.1 ∧ σ1 = (σ.1 ++ [q], va_up σ.2.1 q k, pq_R0 σ.2.2.1 q, σ.2.2.2) ∧ I1 = pq_I0 I q
theorem Ns_in {q k : Nat} {σ σ1 : pq_S} {I I1 : Nat → Nat → Int32} (h : Ns q k σ σ1 I I1) : q ∈ σ1.1 := by
  obtain ⟨-, rfl, -⟩ := h
  exact List.mem_append_right _ (List.mem_singleton.mpr rfl)
theorem Ns_k {q k : Nat} {σ σ1 : pq_S} {I I1 : Nat → Nat → Int32} (h : Ns q k σ σ1 I I1) : σ1.2.1 q = k := by
  obtain ⟨-, rfl, -⟩ := h
  exact va_up_self _ _ _
theorem Ns_i {q k g : Nat} {σ σ1 : pq_S} {I I1 : Nat → Nat → Int32} (h : Ns q k σ σ1 I I1) : I1 g q = 0 := by
  obtain ⟨-, -, rfl⟩ := h
  exact va_up_self _ _ _
theorem Ns_Z {q k : Nat} {σ σ1 : pq_S} {I I1 : Nat → Nat → Int32} (h : Ns q k σ σ1 I I1) (hZ : pq_Z I) : pq_Z I1 := by
  obtain ⟨-, -, rfl⟩ := h
  intro g hg
  funext b
  show va_up (I g) q 0 b = 0
  unfold va_up
  split
  · rfl
  · rw [hZ g hg]
/-- a reference is written -/
def Ps (f a q : Nat) (σ σ1 : pq_S) : Prop := σ1 = (σ.1, σ.2.1, pq_u σ.2.2.1 f a (some q), σ.2.2.2)
theorem Ps_es {f a q : Nat} {σ σ1 : pq_S} {I : Nat → Nat → Int32} (h : Ps f a q σ σ1) : Es f a σ σ1 I I := fun b hb => by
  subst h
  refine ⟨hb, rfl, rfl, fun g hg => ?_, fun _ => rfl⟩
  show pq_u σ.2.2.1 f a (some q) g b = _
  rcases hg with hg | hg
  · rw [pq_uf _ _ _ hg]
  · exact pq_ua _ _ _ _ hg
/-- a new object that was made and then written into field f of a -/
theorem Os_es {f a q k : Nat} {σ σ1 σ2 σ3 : pq_S} {I I1 I2 : Nat → Nat → Int32} (h1 : Ns q k σ σ1 I I1) (h2 : Et q σ1 σ2 I1 I2) (h3 : Ps f a q σ2 σ3) : Es f a σ σ3 I I2 := fun b hb => by
  obtain ⟨g1, g2, g3⟩ := h1
  have hne : b ≠ q := fun z => g1 (z ▸ hb)
  subst g2; subst g3
  obtain ⟨a1, a2, a3, a4⟩ := h2 b (List.mem_append_left _ hb)
  obtain ⟨b1, b2, b3, b4, -⟩ := Ps_es (I := I2) h3 b a1
  exact ⟨b1, b2.trans (a2.trans (va_up_ne _ _ hne)), b3.trans a3, fun g hg => (b4 g hg).trans (((a4 hne).1 g).trans (va_up_ne _ _ hne)), fun g => ((a4 hne).2 g).trans (va_up_ne _ _ hne)⟩
theorem Os_ok {f a q k : Nat} {P P' : Nat → Prop} {σ σ1 σ2 σ3 : pq_S} {I I1 I2 : Nat → Nat → Int32} (h1 : Ns q k σ σ1 I I1) (h2 : Et q σ1 σ2 I1 I2) (h3 : Ps f a q σ2 σ3) (ha : a ∈ σ.1) (hP : P q) (hPP : P q → P' q) : okO σ3 f a k P' := by
  have e3 := Ps_es (I := I2) h3
  obtain ⟨a1, a2, -, -⟩ := h2 q (Ns_in h1)
  have ha1 : a ∈ σ1.1 := by
    obtain ⟨-, rfl, -⟩ := h1
    exact List.mem_append_left _ ha
  exact ⟨(e3 a (h2 a ha1).1).1, q, by rw [h3]; exact pq_us _ _ _ _, (e3 q a1).1, (e3 q a1).2.1.trans (a2.trans (Ns_k h1)), hPP hP⟩
section PQE
variable {p : Program} {l : Launch} {e : Env} {R : Room} {s : State} {m : MethodId} {args : Array Value} {below : List Frame} {meth : Method} {c : Code} {H : Heap} {locs : List Loc} {cells slots : Nat} {Q : State → Prop}
variable {cc : ByteArray} {pc : Nat} {ls : Array Slot} {rest : List Value} {D : va_G} {A : Nat → Prop} {a : Nat} {t : pq_T} {σ : pq_S} {H0 : Heap}
variable {I : Nat → Nat → Int32} {J : Nat → Nat → Int64} {ri : Nat → Nat → Int32} {rj : Nat → Nat → Int64} {rq : Nat → Nat → Option Nat}
theorem pq_flR {R : Nat → Nat → Option Nat} {I : Nat → Nat → Int32} {J : Nat → Nat → Int64} {k a b f : Nat} {v : Option Nat} (h : b ≠ a) : pq_fl (pq_u R f a v) I J k b = pq_fl R I J k b := by
  unfold pq_fl
  split <;> simp only [pq_ua _ _ _ _ h]
theorem pq_ER {t : pq_T} {L : List Nat} {K : Nat → Nat} {Rr : Nat → Nat → Option Nat} {N : Nat → Nat} {μ : pq_M} {a b f : Nat} {v : Option Nat} (h : b ≠ a) : pq_E t (L, K, pq_u Rr f a v, N) μ b = pq_E t (L, K, Rr, N) μ b := by
  have e : ∀ k, pq_fl (pq_u Rr f a v) μ.1 μ.2.1 k b = pq_fl Rr μ.1 μ.2.1 k b := fun k => pq_flR h
  unfold pq_E
  simp only [e]
/-- a final field of references, in a constructor -/
theorem pr_F (hx : p.tables.exec = Jvm.exec) (hb : c.code = cc) {own C : String} {T : u_T} {N k index : Nat} {Ts : List Cond} {μ : pq_M} (hts : ∀ w ∈ Ts, w.before args s = true) (hin : ∀ w ∈ u_ws C T N, w ∈ Ts) (ty0 : Nat → FieldType) (hty : ∀ k, k < N → parseFieldDescriptor (T k).2.2.1 = some (ty0 k)) (hnm : ∀ a, a < N → ∀ b, b < N → a ≠ b → (T a).2.1 ≠ (T b).2.1) (hown : s.vm.findClass own = some m.cls) (hK : va_K D vwCl (pq_ty t) s) (hP : va_P D vwCl (pq_P t σ μ) H) (hD : va_D A (pq_P t σ μ)) (hS : va_S A H0 H locs) (hL : a ∈ σ.1) (hk : σ.2.1 a = k) (h13 : k < 13) (hc : vwCl[k]? = some (C, T, N)) (j f : Nat) (hj : j < N) (hlink : (Cond.fieldLink own index (T j).1 (T j).2.1 (T j).2.2.1).before args s = true) (hfin : (T j).2.2.2 = true) (hin2 : meth.name = "<init>") (hdecl : (T j).1 = own) {ty : FieldType} {q : Nat} (hd : parseFieldDescriptor (T j).2.2.1 = some ty) (hn : narrow ty (.ref q) = .ref q) (hfit : fits ty (.ref q) = true) (hl : j < (pq_fl σ.2.2.1 μ.1 μ.2.1 k a).length) (hset : pq_fl (pq_u σ.2.2.1 f a (some q)) μ.1 μ.2.1 k a = (pq_fl σ.2.2.1 μ.1 μ.2.1 k a).set j (.ref q)) (hdg : decode cc pc = .ok (.putfield index, 3))
    (kk : ∀ (σ1 : pq_S) (H1 : Heap) (locs1 : List Loc), Ps f a q σ σ1 → va_P D vwCl (pq_P t σ1 μ) H1 → va_D A (pq_P t σ1 μ) → va_S A H0 H1 locs1 → W p l e R s m args below meth c H1 locs1 cells slots Q (F0 m (pc + 3) ls rest)) : W p l e R s m args below meth c H locs cells slots Q (F0 m pc ls (.ref q :: .ref a :: rest)) := by
  obtain ⟨qq, hq⟩ := pq_in (t := t) (μ := μ) hL
  have hq2 := hq
  rw [pq_o h13 hk] at hq2
  have hsame : ∀ x, s.fieldFound? (T j).1 (T j).2.1 (T j).2.2.1 = some x → s.fieldFound? (T j).1 (T j).2.1 (T j).2.2.1 = some x := fun _ h => h
  have he : (pq_P t σ μ).set qq (a, .inr (k, (pq_fl σ.2.2.1 μ.1 μ.2.1 k a).set j (.ref q))) = pq_P t (σ.1, σ.2.1, pq_u σ.2.2.1 f a (some q), σ.2.2.2) μ := by
    have h3 := va_pl_set (X := []) (e := (.inr (k, (pq_fl σ.2.2.1 μ.1 μ.2.1 k a).set j (.ref q)) : va_E)) hD hL hq
    refine h3.trans ?_
    show va_pl _ _ = va_pl _ _
    refine va_pl_congr (fun b => ?_)
    by_cases hb : b = a
    · subst hb
      rw [va_up_self, pq_o h13 (by exact hk)]
      exact congrArg _ (congrArg _ hset.symm)
    · rw [va_up_ne _ _ hb]
      exact (pq_ER hb).symm
  refine va_putF hx hb hts hin ty0 hty hnm hown hK hP hD hS qq hq2 hc j hj hlink hsame hfin hin2 hdecl hd hn hfit hl hdg (fun H1 locs1 hP1 hD1 hS1 => ?_)
  exact kk _ H1 locs1 rfl (he ▸ hP1) (he ▸ hD1) hS1
theorem pr_N (hx : p.tables.exec = Jvm.exec) (hb : c.code = cc) {own C : String} {T : u_T} {N k index : Nat} {Ts : List Cond} {μ : pq_M} (hts : ∀ w ∈ Ts, w.before args s = true) (hin : ∀ w ∈ u_ws C T N, w ∈ Ts) (ty0 : Nat → FieldType) (hty : ∀ k, k < N → parseFieldDescriptor (T k).2.2.1 = some (ty0 k)) (hnm : ∀ a, a < N → ∀ b, b < N → a ≠ b → (T a).2.1 ≠ (T b).2.1) (hown : s.vm.findClass own = some m.cls) (hK : va_K D vwCl (pq_ty t) s) (hP : va_P D vwCl (pq_P t σ μ) H) (hD : va_D A (pq_P t σ μ)) (hS : va_S A H0 H locs) (hL : a ∈ σ.1) (hk : σ.2.1 a = k) (h13 : k < 13) (hc : vwCl[k]? = some (C, T, N)) (j f : Nat) (hj : j < N) (hlink : (Cond.fieldLink own index (T j).1 (T j).2.1 (T j).2.2.1).before args s = true) (hfin : (T j).2.2.2 = false) {ty : FieldType} {q : Nat} (hd : parseFieldDescriptor (T j).2.2.1 = some ty) (hn : narrow ty (.ref q) = .ref q) (hfit : fits ty (.ref q) = true) (hl : j < (pq_fl σ.2.2.1 μ.1 μ.2.1 k a).length) (hset : pq_fl (pq_u σ.2.2.1 f a (some q)) μ.1 μ.2.1 k a = (pq_fl σ.2.2.1 μ.1 μ.2.1 k a).set j (.ref q)) (hdg : decode cc pc = .ok (.putfield index, 3))
    (kk : ∀ (σ1 : pq_S) (H1 : Heap) (locs1 : List Loc), Ps f a q σ σ1 → va_P D vwCl (pq_P t σ1 μ) H1 → va_D A (pq_P t σ1 μ) → va_S A H0 H1 locs1 → W p l e R s m args below meth c H1 locs1 cells slots Q (F0 m (pc + 3) ls rest)) : W p l e R s m args below meth c H locs cells slots Q (F0 m pc ls (.ref q :: .ref a :: rest)) := by
  obtain ⟨qq, hq⟩ := pq_in (t := t) (μ := μ) hL
  have hq2 := hq
  rw [pq_o h13 hk] at hq2
  have hsame : ∀ x, s.fieldFound? (T j).1 (T j).2.1 (T j).2.2.1 = some x → s.fieldFound? (T j).1 (T j).2.1 (T j).2.2.1 = some x := fun _ h => h
  have he : (pq_P t σ μ).set qq (a, .inr (k, (pq_fl σ.2.2.1 μ.1 μ.2.1 k a).set j (.ref q))) = pq_P t (σ.1, σ.2.1, pq_u σ.2.2.1 f a (some q), σ.2.2.2) μ := by
    have h3 := va_pl_set (X := []) (e := (.inr (k, (pq_fl σ.2.2.1 μ.1 μ.2.1 k a).set j (.ref q)) : va_E)) hD hL hq
    refine h3.trans ?_
    show va_pl _ _ = va_pl _ _
    refine va_pl_congr (fun b => ?_)
    by_cases hb : b = a
    · subst hb
      rw [va_up_self, pq_o h13 (by exact hk)]
      exact congrArg _ (congrArg _ hset.symm)
    · rw [va_up_ne _ _ hb]
      exact (pq_ER hb).symm
  refine va_put hx hb hts hin ty0 hty hnm hown hK hP hD hS qq hq2 hc j hj hlink hsame hfin hd hn hfit hl hdg (fun H1 locs1 hP1 hD1 hS1 => ?_)
  exact kk _ H1 locs1 rfl (he ▸ hP1) (he ▸ hD1) hS1
/-- a new object -/
theorem nw_o (hx : p.tables.exec = Jvm.exec) (hb : c.code = cc) {own C : String} {T : u_T} {N k index : Nat} {Ts : List Cond} (hts : ∀ w ∈ Ts, w.before args s = true) (hin : ∀ w ∈ u_ws C T N, w ∈ Ts) (ty : Nat → FieldType) (hty : ∀ k, k < N → parseFieldDescriptor (T k).2.2.1 = some (ty k)) (hown : s.vm.findClass own = some m.cls) (hcl : (Cond.classLink own index C).before args s = true) (hinst : (Cond.instantiable C N).before args s = true) (hini : (Cond.initialized C).before args s = true)
    (hK : va_K D vwCl (pq_ty t) s) (hP : va_P D vwCl (pq_P t σ (I, J, ri, rj, rq)) H) (hD : va_D A (pq_P t σ (I, J, ri, rj, rq))) (hS : va_S A H0 H locs) (hA : ∀ q, H0.size ≤ q → A q) (h13 : k < 13) (hc : vwCl[k]? = some (C, T, N)) (hfs : ∀ j, j < N → defaultValue (ty j) = vp_V (pq_nf k) j) (hcells : cells + 1 ≤ R.cells) (hslots : slots + N ≤ R.slots) (hdg : decode cc pc = .ok (.new index, 3))
    (kk : ∀ (q : Nat) (σ1 : pq_S) (I1 : Nat → Nat → Int32) (J1 : Nat → Nat → Int64) (H1 : Heap) (locs1 : List Loc), Ns q k σ σ1 I I1 → va_P D vwCl (pq_P t σ1 (I1, J1, ri, rj, rq)) H1 → va_D A (pq_P t σ1 (I1, J1, ri, rj, rq)) → va_S A H0 H1 locs1 →
      W p l e R s m args below meth c H1 locs1 (cells + 1) (slots + N) Q (F0 m (pc + 3) ls (.ref q :: rest))) : W p l e R s m args below meth c H locs cells slots Q (F0 m pc ls rest) := by
  refine va_new hx hb hts hin ty hty hown hcl hinst hini hK hP hD hS hA hc hfs hcells hslots hdg (fun q H1 hP1 hD1 hS1 => ?_)
  have hq : q ∉ σ.1 := va_pl_fresh2 (X := []) hD1
  have he := pq_no (t := t) (σ := σ) (I := I) (J := J) (r := (ri, rj, rq)) h13 hq
  exact kk q _ _ _ H1 locs ⟨hq, rfl, rfl⟩ (he ▸ hP1) (he ▸ hD1) hS1
theorem nw_i (hx : p.tables.exec = Jvm.exec) (hb : c.code = cc) (harr : (Cond.arrayClass (newarray.typeOf .int)).before args s = true) (hK : va_K D vwCl (pq_ty t) s) (hP : va_P D vwCl (pq_P t σ (I, J, ri, rj, rq)) H) (hD : va_D A (pq_P t σ (I, J, ri, rj, rq))) (hS : va_S A H0 H locs) (hA : ∀ q, H0.size ≤ q → A q)
    {n : Int32} {N' : Nat} (hn : ¬ n < 0) (hN : n.toNatClampNeg = N') (hbytes : N' * componentBytes .int ≤ 536870912) (hcells : cells + 1 ≤ R.cells) (hslots : slots + N' ≤ R.slots) (hdg : decode cc pc = .ok (.newarray .int, 2))
    (kk : ∀ (q : Nat) (r1 : Nat → Nat → Int32) (H1 : Heap), q ∉ σ.1 → r1 = va_up ri q (fun _ => 0) → va_P D vwCl (pq_P t (σ.1 ++ [q], va_up σ.2.1 q 13, σ.2.2.1, va_up σ.2.2.2 q N') (I, J, r1, rj, rq)) H1 → va_D A (pq_P t (σ.1 ++ [q], va_up σ.2.1 q 13, σ.2.2.1, va_up σ.2.2.2 q N') (I, J, r1, rj, rq)) → va_S A H0 H1 locs →
      W p l e R s m args below meth c H1 locs (cells + 1) (slots + N') Q (F0 m (pc + 2) ls (.ref q :: rest))) : W p l e R s m args below meth c H locs cells slots Q (F0 m pc ls (.int n :: rest)) := by
  refine va_newa (ty := .int) (a0 := (N', .inl (fun _ => 0))) hx hb harr rfl hK hP hD hS hA (fun _ => rfl) hn hN hbytes hcells hslots hdg (fun q cA H1 hK1 hP1 hD1 hS1 => ?_)
  have hcA : cA = t.1 := pq_cu (i := 0) hK rfl hK1
  subst hcA
  have hq : q ∉ σ.1 := va_pl_fresh2 (X := []) hD1
  have he := pq_ni (t := t) (σ := σ) (I := I) (J := J) (ri := ri) (r := (rj, rq)) (n := N') hq
  exact kk q _ H1 hq rfl (he ▸ hP1) (he ▸ hD1) hS1
theorem nw_z (hx : p.tables.exec = Jvm.exec) (hb : c.code = cc) (harr : (Cond.arrayClass (newarray.typeOf .boolean)).before args s = true) (hK : va_K D vwCl (pq_ty t) s) (hP : va_P D vwCl (pq_P t σ (I, J, ri, rj, rq)) H) (hD : va_D A (pq_P t σ (I, J, ri, rj, rq))) (hS : va_S A H0 H locs) (hA : ∀ q, H0.size ≤ q → A q)
    {n : Int32} {N' : Nat} (hn : ¬ n < 0) (hN : n.toNatClampNeg = N') (hbytes : N' * componentBytes .boolean ≤ 536870912) (hcells : cells + 1 ≤ R.cells) (hslots : slots + N' ≤ R.slots) (hdg : decode cc pc = .ok (.newarray .boolean, 2))
    (kk : ∀ (q : Nat) (r1 : Nat → Nat → Int32) (H1 : Heap), q ∉ σ.1 → r1 = va_up ri q (fun _ => 0) → va_P D vwCl (pq_P t (σ.1 ++ [q], va_up σ.2.1 q 15, σ.2.2.1, va_up σ.2.2.2 q N') (I, J, r1, rj, rq)) H1 → va_D A (pq_P t (σ.1 ++ [q], va_up σ.2.1 q 15, σ.2.2.1, va_up σ.2.2.2 q N') (I, J, r1, rj, rq)) → va_S A H0 H1 locs →
      W p l e R s m args below meth c H1 locs (cells + 1) (slots + N') Q (F0 m (pc + 2) ls (.ref q :: rest))) : W p l e R s m args below meth c H locs cells slots Q (F0 m pc ls (.int n :: rest)) := by
  refine va_newa (ty := .boolean) (a0 := (N', .inl (fun _ => 0))) hx hb harr rfl hK hP hD hS hA (fun _ => rfl) hn hN hbytes hcells hslots hdg (fun q cA H1 hK1 hP1 hD1 hS1 => ?_)
  have hcA : cA = t.2.2.1 := pq_cu (i := 2) hK rfl hK1
  subst hcA
  have hq : q ∉ σ.1 := va_pl_fresh2 (X := []) hD1
  have he := pq_nz (t := t) (σ := σ) (I := I) (J := J) (ri := ri) (r := (rj, rq)) (n := N') hq
  exact kk q _ H1 hq rfl (he ▸ hP1) (he ▸ hD1) hS1
theorem nw_l (hx : p.tables.exec = Jvm.exec) (hb : c.code = cc) (harr : (Cond.arrayClass (newarray.typeOf .long)).before args s = true) (hK : va_K D vwCl (pq_ty t) s) (hP : va_P D vwCl (pq_P t σ (I, J, ri, rj, rq)) H) (hD : va_D A (pq_P t σ (I, J, ri, rj, rq))) (hS : va_S A H0 H locs) (hA : ∀ q, H0.size ≤ q → A q)
    {n : Int32} {N' : Nat} (hn : ¬ n < 0) (hN : n.toNatClampNeg = N') (hbytes : N' * componentBytes .long ≤ 536870912) (hcells : cells + 1 ≤ R.cells) (hslots : slots + N' ≤ R.slots) (hdg : decode cc pc = .ok (.newarray .long, 2))
    (kk : ∀ (q : Nat) (r1 : Nat → Nat → Int64) (H1 : Heap), q ∉ σ.1 → r1 = va_up rj q (fun _ => 0) → va_P D vwCl (pq_P t (σ.1 ++ [q], va_up σ.2.1 q 14, σ.2.2.1, va_up σ.2.2.2 q N') (I, J, ri, r1, rq)) H1 → va_D A (pq_P t (σ.1 ++ [q], va_up σ.2.1 q 14, σ.2.2.1, va_up σ.2.2.2 q N') (I, J, ri, r1, rq)) → va_S A H0 H1 locs →
      W p l e R s m args below meth c H1 locs (cells + 1) (slots + N') Q (F0 m (pc + 2) ls (.ref q :: rest))) : W p l e R s m args below meth c H locs cells slots Q (F0 m pc ls (.int n :: rest)) := by
  refine va_newa (ty := .long) (a0 := (N', .inr (.inl (fun _ => 0)))) hx hb harr rfl hK hP hD hS hA (fun _ => rfl) hn hN hbytes hcells hslots hdg (fun q cA H1 hK1 hP1 hD1 hS1 => ?_)
  have hcA : cA = t.2.1 := pq_cu (i := 1) hK rfl hK1
  subst hcA
  have hq : q ∉ σ.1 := va_pl_fresh2 (X := []) hD1
  have he := pq_nl2 (t := t) (σ := σ) (I := I) (J := J) (ri := ri) (rj := rj) (rq := rq) (n := N') hq
  exact kk q _ H1 hq rfl (he ▸ hP1) (he ▸ hD1) hS1
theorem nw_q (hx : p.tables.exec = Jvm.exec) (hb : c.code = cc) {own : String} {index : Nat} (hown : s.vm.findClass own = some m.cls) (hclink : (Cond.classLink own index "RingsUnder$Text").before args s = true) (hover : va_AO "RingsUnder$Text" s) (hK : va_K D vwCl (pq_ty t) s) (hP : va_P D vwCl (pq_P t σ (I, J, ri, rj, rq)) H) (hD : va_D A (pq_P t σ (I, J, ri, rj, rq))) (hS : va_S A H0 H locs) (hA : ∀ q, H0.size ≤ q → A q)
    {n : Int32} {N' : Nat} (hn : ¬ n < 0) (hN : n.toNatClampNeg = N') (hbytes : N' * 4 ≤ 536870912) (hcells : cells + 1 ≤ R.cells) (hslots : slots + N' ≤ R.slots) (hdg : decode cc pc = .ok (.anewarray index, 3))
    (kk : ∀ (q : Nat) (r1 : Nat → Nat → Option Nat) (H1 : Heap), q ∉ σ.1 → r1 = va_up rq q (fun _ => none) → va_P D vwCl (pq_P t (σ.1 ++ [q], va_up σ.2.1 q 16, σ.2.2.1, va_up σ.2.2.2 q N') (I, J, ri, rj, r1)) H1 → va_D A (pq_P t (σ.1 ++ [q], va_up σ.2.1 q 16, σ.2.2.1, va_up σ.2.2.2 q N') (I, J, ri, rj, r1)) → va_S A H0 H1 locs →
      W p l e R s m args below meth c H1 locs (cells + 1) (slots + N') Q (F0 m (pc + 3) ls (.ref q :: rest))) : W p l e R s m args below meth c H locs cells slots Q (F0 m pc ls (.int n :: rest)) := by
  refine va_newq hx hb hown hclink hover hK hP hD hS hA hn hN hbytes hcells hslots hdg (fun q cA H1 hK1 hP1 hD1 hS1 => ?_)
  have hcA : cA = t.2.2.2 := pq_cu (i := 3) hK rfl hK1
  subst hcA
  have hq : q ∉ σ.1 := va_pl_fresh2 (X := []) hD1
  have he := pq_nq (t := t) (σ := σ) (I := I) (J := J) (ri := ri) (rj := rj) (rq := rq) (n := N') hq
  exact kk q _ H1 hq rfl (he ▸ hP1) (he ▸ hD1) hS1
theorem As_of {f a q k n : Nat} {σ σ1 : pq_S} (hq : q ∉ σ.1) (h : Ps f a q (σ.1 ++ [q], va_up σ.2.1 q k, σ.2.2.1, va_up σ.2.2.2 q n) σ1) : As f a q k n σ σ1 := ⟨hq, h⟩
theorem As_in {q k n : Nat} {σ : pq_S} {b : Nat} (hb : b ∈ σ.1) : b ∈ (σ.1 ++ [q], va_up σ.2.1 q k, σ.2.2.1, va_up σ.2.2.2 q n).1 := List.mem_append_left _ hb
theorem As_kk {q k n : Nat} {σ : pq_S} {b j : Nat} (hq : q ∉ σ.1) (hb : b ∈ σ.1) (hk : σ.2.1 b = j) : (σ.1 ++ [q], va_up σ.2.1 q k, σ.2.2.1, va_up σ.2.2.2 q n).2.1 b = j := (va_up_ne _ _ (fun (z : b = q) => hq (z ▸ hb))).trans hk
end PQE
theorem va_upc {α : Type} {f : Nat → α} {k : Nat} {v : α} (h : f = fun _ => v) : va_up f k v = fun _ => v := by
  subst h
  funext b
  unfold va_up
  split <;> rfl
theorem sb_m {l1 l2 : List Nat} (h : l1.all (fun x => l2.contains x) = true) {f : Nat} (m : f ∈ l1) : f ∈ l2 := List.contains_iff_mem.mp (List.all_eq_true.mp h f m)
def okD (σ : pq_S) (g1 g2 a : Nat) : Prop := a ∈ σ.1 ∧ ∀ r w, σ.2.2.1 g1 a = some r → σ.2.2.1 g2 a = some w → r ≠ w
theorem okD_es {f a g1 g2 b : Nat} {σ σ' : pq_S} {I I' : Nat → Nat → Int32} (h : Es f a σ σ' I I') (h1 : g1 ≠ f) (h2 : g2 ≠ f) (x : okD σ g1 g2 b) : okD σ' g1 g2 b := by
  obtain ⟨x1, x2⟩ := x
  obtain ⟨b1, -, -, b4, -⟩ := h b x1
  exact ⟨b1, fun r w e1 e2 => x2 r w ((b4 g1 (Or.inl h1)).symm.trans e1) ((b4 g2 (Or.inl h2)).symm.trans e2)⟩
theorem okD_mk {g1 g2 a q q1 : Nat} {σ σ' : pq_S} {I I' : Nat → Nat → Int32} (h : Es g2 a σ σ' I I') (hg : g1 ≠ g2) (ha : a ∈ σ.1) (h1 : σ.2.2.1 g1 a = some q1) (hq1 : q1 ∈ σ.1) (h2 : σ'.2.2.1 g2 a = some q) (hq : q ∉ σ.1) : okD σ' g1 g2 a := by
  obtain ⟨b1, -, -, b4, -⟩ := h a ha
  refine ⟨b1, fun r w e1 e2 z => ?_⟩
  have e3 := (b4 g1 (Or.inl hg)).symm.trans e1
  rw [h1] at e3
  rw [h2] at e2
  cases e3; cases e2
  exact hq (z ▸ hq1)
theorem Ns_at {q k b : Nat} {σ σ1 : pq_S} {I I1 : Nat → Nat → Int32} (h : Ns q k σ σ1 I I1) (hb : b ∈ σ.1) : b ∈ σ1.1 := by
  obtain ⟨-, rfl, -⟩ := h
  exact List.mem_append_left _ hb
theorem Ns_kk {q k b j : Nat} {σ σ1 : pq_S} {I I1 : Nat → Nat → Int32} (h : Ns q k σ σ1 I I1) (hb : b ∈ σ.1) (hk : σ.2.1 b = j) : σ1.2.1 b = j := by
  obtain ⟨hq, rfl, -⟩ := h
  exact (va_up_ne _ _ (fun (z : b = q) => hq (z ▸ hb))).trans hk
theorem Et_k {a b j : Nat} {σ σ' : pq_S} {I I' : Nat → Nat → Int32} (h : Et a σ σ' I I') (hb : b ∈ σ.1) (hk : σ.2.1 b = j) : σ'.2.1 b = j := (h b hb).2.1.trans hk

def okWells (σ : pq_S) (I : Nat → Nat → Int32) (a : Nat) : Prop := okA σ 288 a 13 40 ∧ okA σ 289 a 13 40 ∧ okA σ 290 a 13 40
theorem okWells_es {f b a : Nat} {σ σ' : pq_S} {I I' : Nat → Nat → Int32} (h : Es f b σ σ' I I') (hf : f ∉ ([288, 289, 290] : List Nat)) (x : okWells σ I a) : okWells σ' I' a := by
  obtain ⟨x0, x1, x2⟩ := x
  exact ⟨okA_es h (fun e => hf (by rw [← e]; decide)) x0, okA_es h (fun e => hf (by rw [← e]; decide)) x1, okA_es h (fun e => hf (by rw [← e]; decide)) x2⟩
def okLand (σ : pq_S) (I : Nat → Nat → Int32) (a : Nat) : Prop := okA σ 68 a 14 600 ∧ okA σ 69 a 13 40 ∧ okA σ 70 a 13 40 ∧ okA σ 71 a 13 40 ∧ okA σ 72 a 13 40 ∧ okA σ 73 a 13 40 ∧ okA σ 74 a 13 40 ∧ okA σ 75 a 13 40 ∧ okA σ 76 a 13 40 ∧ okA σ 77 a 13 40 ∧ okO σ 78 a 9 (okWells σ I) ∧ okA σ 79 a 13 40 ∧ okA σ 80 a 13 5 ∧ okA σ 81 a 13 40 ∧ okA σ 82 a 13 32 ∧ okA σ 83 a 13 21 ∧ okD σ 82 83 a
theorem okLand_es {f b a : Nat} {σ σ' : pq_S} {I I' : Nat → Nat → Int32} (h : Es f b σ σ' I I') (hf : f ∉ ([68, 69, 70, 71, 72, 73, 74, 75, 76, 77, 78, 79, 80, 81, 82, 83, 288, 289, 290] : List Nat)) (x : okLand σ I a) : okLand σ' I' a := by
  obtain ⟨x0, x1, x2, x3, x4, x5, x6, x7, x8, x9, x10, x11, x12, x13, x14, x15, x16⟩ := x
  exact ⟨okA_es h (fun e => hf (by rw [← e]; decide)) x0, okA_es h (fun e => hf (by rw [← e]; decide)) x1, okA_es h (fun e => hf (by rw [← e]; decide)) x2, okA_es h (fun e => hf (by rw [← e]; decide)) x3, okA_es h (fun e => hf (by rw [← e]; decide)) x4, okA_es h (fun e => hf (by rw [← e]; decide)) x5, okA_es h (fun e => hf (by rw [← e]; decide)) x6, okA_es h (fun e => hf (by rw [← e]; decide)) x7, okA_es h (fun e => hf (by rw [← e]; decide)) x8, okA_es h (fun e => hf (by rw [← e]; decide)) x9, okO_es h (fun e => hf (by rw [← e]; decide)) (fun q y => okWells_es h (fun m => hf (sb_m (by decide +kernel) m)) y) x10, okA_es h (fun e => hf (by rw [← e]; decide)) x11, okA_es h (fun e => hf (by rw [← e]; decide)) x12, okA_es h (fun e => hf (by rw [← e]; decide)) x13, okA_es h (fun e => hf (by rw [← e]; decide)) x14, okA_es h (fun e => hf (by rw [← e]; decide)) x15, okD_es h (fun e => hf (by rw [← e]; decide)) (fun e => hf (by rw [← e]; decide)) x16⟩
def okSeas (σ : pq_S) (I : Nat → Nat → Int32) (a : Nat) : Prop := okA σ 225 a 13 200 ∧ okA σ 226 a 13 200 ∧ okA σ 227 a 13 200 ∧ okA σ 228 a 13 200 ∧ okA σ 229 a 13 12 ∧ okA σ 230 a 13 12 ∧ okA σ 231 a 13 12 ∧ okA σ 232 a 13 12 ∧ okA σ 233 a 13 12 ∧ I 237 a = 3
theorem okSeas_es {f b a : Nat} {σ σ' : pq_S} {I I' : Nat → Nat → Int32} (h : Es f b σ σ' I I') (hf : f ∉ ([225, 226, 227, 228, 229, 230, 231, 232, 233] : List Nat)) (x : okSeas σ I a) : okSeas σ' I' a := by
  obtain ⟨x0, x1, x2, x3, x4, x5, x6, x7, x8, x9⟩ := x
  exact ⟨okA_es h (fun e => hf (by rw [← e]; decide)) x0, okA_es h (fun e => hf (by rw [← e]; decide)) x1, okA_es h (fun e => hf (by rw [← e]; decide)) x2, okA_es h (fun e => hf (by rw [← e]; decide)) x3, okA_es h (fun e => hf (by rw [← e]; decide)) x4, okA_es h (fun e => hf (by rw [← e]; decide)) x5, okA_es h (fun e => hf (by rw [← e]; decide)) x6, okA_es h (fun e => hf (by rw [← e]; decide)) x7, okA_es h (fun e => hf (by rw [← e]; decide)) x8, Es_i h x0.1 x9⟩
def okFolk (σ : pq_S) (I : Nat → Nat → Int32) (a : Nat) : Prop := okA σ 1 a 13 40 ∧ okA σ 2 a 13 40 ∧ okA σ 3 a 13 40 ∧ okA σ 4 a 13 40 ∧ okA σ 5 a 13 40 ∧ okA σ 6 a 13 40 ∧ okA σ 7 a 13 40 ∧ okA σ 8 a 13 40 ∧ okA σ 9 a 13 40 ∧ okA σ 11 a 13 5 ∧ okA σ 12 a 13 5 ∧ okA σ 13 a 13 5 ∧ okA σ 14 a 13 50 ∧ okA σ 15 a 13 50
theorem okFolk_es {f b a : Nat} {σ σ' : pq_S} {I I' : Nat → Nat → Int32} (h : Es f b σ σ' I I') (hf : f ∉ ([1, 2, 3, 4, 5, 6, 7, 8, 9, 11, 12, 13, 14, 15] : List Nat)) (x : okFolk σ I a) : okFolk σ' I' a := by
  obtain ⟨x0, x1, x2, x3, x4, x5, x6, x7, x8, x9, x10, x11, x12, x13⟩ := x
  exact ⟨okA_es h (fun e => hf (by rw [← e]; decide)) x0, okA_es h (fun e => hf (by rw [← e]; decide)) x1, okA_es h (fun e => hf (by rw [← e]; decide)) x2, okA_es h (fun e => hf (by rw [← e]; decide)) x3, okA_es h (fun e => hf (by rw [← e]; decide)) x4, okA_es h (fun e => hf (by rw [← e]; decide)) x5, okA_es h (fun e => hf (by rw [← e]; decide)) x6, okA_es h (fun e => hf (by rw [← e]; decide)) x7, okA_es h (fun e => hf (by rw [← e]; decide)) x8, okA_es h (fun e => hf (by rw [← e]; decide)) x9, okA_es h (fun e => hf (by rw [← e]; decide)) x10, okA_es h (fun e => hf (by rw [← e]; decide)) x11, okA_es h (fun e => hf (by rw [← e]; decide)) x12, okA_es h (fun e => hf (by rw [← e]; decide)) x13⟩
def okLaw (σ : pq_S) (I : Nat → Nat → Int32) (a : Nat) : Prop := okA σ 97 a 16 10 ∧ okA σ 99 a 13 30 ∧ okA σ 100 a 13 30 ∧ okA σ 101 a 13 30 ∧ okA σ 102 a 13 6 ∧ okA σ 103 a 13 40
theorem okLaw_es {f b a : Nat} {σ σ' : pq_S} {I I' : Nat → Nat → Int32} (h : Es f b σ σ' I I') (hf : f ∉ ([97, 99, 100, 101, 102, 103] : List Nat)) (x : okLaw σ I a) : okLaw σ' I' a := by
  obtain ⟨x0, x1, x2, x3, x4, x5⟩ := x
  exact ⟨okA_es h (fun e => hf (by rw [← e]; decide)) x0, okA_es h (fun e => hf (by rw [← e]; decide)) x1, okA_es h (fun e => hf (by rw [← e]; decide)) x2, okA_es h (fun e => hf (by rw [← e]; decide)) x3, okA_es h (fun e => hf (by rw [← e]; decide)) x4, okA_es h (fun e => hf (by rw [← e]; decide)) x5⟩
def okGraves (σ : pq_S) (I : Nat → Nat → Int32) (a : Nat) : Prop := okA σ 33 a 13 30 ∧ okA σ 34 a 14 30
theorem okGraves_es {f b a : Nat} {σ σ' : pq_S} {I I' : Nat → Nat → Int32} (h : Es f b σ σ' I I') (hf : f ∉ ([33, 34] : List Nat)) (x : okGraves σ I a) : okGraves σ' I' a := by
  obtain ⟨x0, x1⟩ := x
  exact ⟨okA_es h (fun e => hf (by rw [← e]; decide)) x0, okA_es h (fun e => hf (by rw [← e]; decide)) x1⟩
def okWorld (σ : pq_S) (I : Nat → Nat → Int32) (a : Nat) : Prop := okA σ 325 a 13 40 ∧ okO σ 326 a 7 (okSeas σ I) ∧ okO σ 327 a 2 (okLand σ I) ∧ okO σ 328 a 0 (okFolk σ I) ∧ okO σ 329 a 3 (okLaw σ I) ∧ okO σ 330 a 1 (okGraves σ I) ∧ okA σ 331 a 13 40 ∧ okA σ 332 a 13 5 ∧ I 320 a = 0 ∧ I 323 a = (-1) ∧ I 324 a = (-1)
theorem okWorld_es {f b a : Nat} {σ σ' : pq_S} {I I' : Nat → Nat → Int32} (h : Es f b σ σ' I I') (hf : f ∉ ([1, 2, 3, 4, 5, 6, 7, 8, 9, 11, 12, 13, 14, 15, 33, 34, 68, 69, 70, 71, 72, 73, 74, 75, 76, 77, 78, 79, 80, 81, 82, 83, 97, 99, 100, 101, 102, 103, 225, 226, 227, 228, 229, 230, 231, 232, 233, 288, 289, 290, 325, 326, 327, 328, 329, 330, 331, 332] : List Nat)) (x : okWorld σ I a) : okWorld σ' I' a := by
  obtain ⟨x0, x1, x2, x3, x4, x5, x6, x7, x8, x9, x10⟩ := x
  exact ⟨okA_es h (fun e => hf (by rw [← e]; decide)) x0, okO_es h (fun e => hf (by rw [← e]; decide)) (fun q y => okSeas_es h (fun m => hf (sb_m (by decide +kernel) m)) y) x1, okO_es h (fun e => hf (by rw [← e]; decide)) (fun q y => okLand_es h (fun m => hf (sb_m (by decide +kernel) m)) y) x2, okO_es h (fun e => hf (by rw [← e]; decide)) (fun q y => okFolk_es h (fun m => hf (sb_m (by decide +kernel) m)) y) x3, okO_es h (fun e => hf (by rw [← e]; decide)) (fun q y => okLaw_es h (fun m => hf (sb_m (by decide +kernel) m)) y) x4, okO_es h (fun e => hf (by rw [← e]; decide)) (fun q y => okGraves_es h (fun m => hf (sb_m (by decide +kernel) m)) y) x5, okA_es h (fun e => hf (by rw [← e]; decide)) x6, okA_es h (fun e => hf (by rw [← e]; decide)) x7, Es_i h x0.1 x8, Es_i h x0.1 x9, Es_i h x0.1 x10⟩
def okRingOrders (σ : pq_S) (I : Nat → Nat → Int32) (a : Nat) : Prop := okA σ 161 a 13 5 ∧ okA σ 162 a 13 5 ∧ okA σ 163 a 13 40 ∧ okA σ 165 a 14 12 ∧ okA σ 166 a 13 60 ∧ okA σ 167 a 14 12
theorem okRingOrders_es {f b a : Nat} {σ σ' : pq_S} {I I' : Nat → Nat → Int32} (h : Es f b σ σ' I I') (hf : f ∉ ([161, 162, 163, 165, 166, 167] : List Nat)) (x : okRingOrders σ I a) : okRingOrders σ' I' a := by
  obtain ⟨x0, x1, x2, x3, x4, x5⟩ := x
  exact ⟨okA_es h (fun e => hf (by rw [← e]; decide)) x0, okA_es h (fun e => hf (by rw [← e]; decide)) x1, okA_es h (fun e => hf (by rw [← e]; decide)) x2, okA_es h (fun e => hf (by rw [← e]; decide)) x3, okA_es h (fun e => hf (by rw [← e]; decide)) x4, okA_es h (fun e => hf (by rw [← e]; decide)) x5⟩
def okScanner (σ : pq_S) (I : Nat → Nat → Int32) (a : Nat) : Prop := okA σ 192 a 13 300
theorem okScanner_es {f b a : Nat} {σ σ' : pq_S} {I I' : Nat → Nat → Int32} (h : Es f b σ σ' I I') (hf : f ∉ ([192] : List Nat)) (x : okScanner σ I a) : okScanner σ' I' a := by
  have x0 := x
  exact okA_es h (fun e => hf (by rw [← e]; decide)) x0
def okText (σ : pq_S) (I : Nat → Nat → Int32) (a : Nat) : Prop := okA σ 257 a 13 20 ∧ okA σ 258 a 13 21 ∧ okA σ 259 a 13 300
theorem okText_es {f b a : Nat} {σ σ' : pq_S} {I I' : Nat → Nat → Int32} (h : Es f b σ σ' I I') (hf : f ∉ ([257, 258, 259] : List Nat)) (x : okText σ I a) : okText σ' I' a := by
  obtain ⟨x0, x1, x2⟩ := x
  exact ⟨okA_es h (fun e => hf (by rw [← e]; decide)) x0, okA_es h (fun e => hf (by rw [← e]; decide)) x1, okA_es h (fun e => hf (by rw [← e]; decide)) x2⟩
def okReader (σ : pq_S) (I : Nat → Nat → Int32) (a : Nat) : Prop := okO σ 128 a 6 (okScanner σ I) ∧ okO σ 131 a 8 (okText σ I) ∧ okA σ 133 a 13 40 ∧ I 129 a = (-1) ∧ I 130 a = (-1)
theorem okReader_es {f b a : Nat} {σ σ' : pq_S} {I I' : Nat → Nat → Int32} (h : Es f b σ σ' I I') (hf : f ∉ ([128, 131, 133, 192, 257, 258, 259] : List Nat)) (x : okReader σ I a) : okReader σ' I' a := by
  obtain ⟨x0, x1, x2, x3, x4⟩ := x
  exact ⟨okO_es h (fun e => hf (by rw [← e]; decide)) (fun q y => okScanner_es h (fun m => hf (sb_m (by decide +kernel) m)) y) x0, okO_es h (fun e => hf (by rw [← e]; decide)) (fun q y => okText_es h (fun m => hf (sb_m (by decide +kernel) m)) y) x1, okA_es h (fun e => hf (by rw [← e]; decide)) x2, Es_i h x0.1 x3, Es_i h x0.1 x4⟩
def okRingsUnder (σ : pq_S) (I : Nat → Nat → Int32) (a : Nat) : Prop := okO σ 352 a 10 (okWorld σ I) ∧ okO σ 353 a 10 (okWorld σ I) ∧ okO σ 354 a 10 (okWorld σ I) ∧ okO σ 355 a 5 (okRingOrders σ I) ∧ okO σ 356 a 4 (okReader σ I) ∧ okD σ 352 353 a ∧ okD σ 352 354 a ∧ okD σ 353 354 a
theorem okRingsUnder_es {f b a : Nat} {σ σ' : pq_S} {I I' : Nat → Nat → Int32} (h : Es f b σ σ' I I') (hf : f ∉ ([1, 2, 3, 4, 5, 6, 7, 8, 9, 11, 12, 13, 14, 15, 33, 34, 68, 69, 70, 71, 72, 73, 74, 75, 76, 77, 78, 79, 80, 81, 82, 83, 97, 99, 100, 101, 102, 103, 128, 131, 133, 161, 162, 163, 165, 166, 167, 192, 225, 226, 227, 228, 229, 230, 231, 232, 233, 257, 258, 259, 288, 289, 290, 325, 326, 327, 328, 329, 330, 331, 332, 352, 353, 354, 355, 356] : List Nat)) (x : okRingsUnder σ I a) : okRingsUnder σ' I' a := by
  obtain ⟨x0, x1, x2, x3, x4, x5, x6, x7⟩ := x
  exact ⟨okO_es h (fun e => hf (by rw [← e]; decide)) (fun q y => okWorld_es h (fun m => hf (sb_m (by decide +kernel) m)) y) x0, okO_es h (fun e => hf (by rw [← e]; decide)) (fun q y => okWorld_es h (fun m => hf (sb_m (by decide +kernel) m)) y) x1, okO_es h (fun e => hf (by rw [← e]; decide)) (fun q y => okWorld_es h (fun m => hf (sb_m (by decide +kernel) m)) y) x2, okO_es h (fun e => hf (by rw [← e]; decide)) (fun q y => okRingOrders_es h (fun m => hf (sb_m (by decide +kernel) m)) y) x3, okO_es h (fun e => hf (by rw [← e]; decide)) (fun q y => okReader_es h (fun m => hf (sb_m (by decide +kernel) m)) y) x4, okD_es h (fun e => hf (by rw [← e]; decide)) (fun e => hf (by rw [← e]; decide)) x5, okD_es h (fun e => hf (by rw [← e]; decide)) (fun e => hf (by rw [← e]; decide)) x6, okD_es h (fun e => hf (by rw [← e]; decide)) (fun e => hf (by rw [← e]; decide)) x7⟩
theorem nf_9 : ∀ j, j < 3 → defaultValue (tyX9 j) = vp_V (pq_nf 9) j := by
  intro j hj
  have h : j = 0 ∨ j = 1 ∨ j = 2 := by omega
  rcases h with h | h | h <;> subst h <;> rfl
theorem nf_2 : ∀ j, j < 20 → defaultValue (tyX2 j) = vp_V (pq_nf 2) j := by
  intro j hj
  have h : j = 0 ∨ j = 1 ∨ j = 2 ∨ j = 3 ∨ j = 4 ∨ j = 5 ∨ j = 6 ∨ j = 7 ∨ j = 8 ∨ j = 9 ∨ j = 10 ∨ j = 11 ∨ j = 12 ∨ j = 13 ∨ j = 14 ∨ j = 15 ∨ j = 16 ∨ j = 17 ∨ j = 18 ∨ j = 19 := by omega
  rcases h with h | h | h | h | h | h | h | h | h | h | h | h | h | h | h | h | h | h | h | h <;> subst h <;> rfl
theorem nf_7 : ∀ j, j < 15 → defaultValue (tyX7 j) = vp_V (pq_nf 7) j := by
  intro j hj
  have h : j = 0 ∨ j = 1 ∨ j = 2 ∨ j = 3 ∨ j = 4 ∨ j = 5 ∨ j = 6 ∨ j = 7 ∨ j = 8 ∨ j = 9 ∨ j = 10 ∨ j = 11 ∨ j = 12 ∨ j = 13 ∨ j = 14 := by omega
  rcases h with h | h | h | h | h | h | h | h | h | h | h | h | h | h | h <;> subst h <;> rfl
theorem nf_0 : ∀ j, j < 16 → defaultValue (tyX0 j) = vp_V (pq_nf 0) j := by
  intro j hj
  have h : j = 0 ∨ j = 1 ∨ j = 2 ∨ j = 3 ∨ j = 4 ∨ j = 5 ∨ j = 6 ∨ j = 7 ∨ j = 8 ∨ j = 9 ∨ j = 10 ∨ j = 11 ∨ j = 12 ∨ j = 13 ∨ j = 14 ∨ j = 15 := by omega
  rcases h with h | h | h | h | h | h | h | h | h | h | h | h | h | h | h | h <;> subst h <;> rfl
theorem nf_3 : ∀ j, j < 8 → defaultValue (tyX3 j) = vp_V (pq_nf 3) j := by
  intro j hj
  have h : j = 0 ∨ j = 1 ∨ j = 2 ∨ j = 3 ∨ j = 4 ∨ j = 5 ∨ j = 6 ∨ j = 7 := by omega
  rcases h with h | h | h | h | h | h | h | h <;> subst h <;> rfl
theorem nf_1 : ∀ j, j < 3 → defaultValue (tyX1 j) = vp_V (pq_nf 1) j := by
  intro j hj
  have h : j = 0 ∨ j = 1 ∨ j = 2 := by omega
  rcases h with h | h | h <;> subst h <;> rfl
theorem nf_10 : ∀ j, j < 13 → defaultValue (tyX10 j) = vp_V (pq_nf 10) j := by
  intro j hj
  have h : j = 0 ∨ j = 1 ∨ j = 2 ∨ j = 3 ∨ j = 4 ∨ j = 5 ∨ j = 6 ∨ j = 7 ∨ j = 8 ∨ j = 9 ∨ j = 10 ∨ j = 11 ∨ j = 12 := by omega
  rcases h with h | h | h | h | h | h | h | h | h | h | h | h | h <;> subst h <;> rfl
theorem nf_5 : ∀ j, j < 8 → defaultValue (tyX5 j) = vp_V (pq_nf 5) j := by
  intro j hj
  have h : j = 0 ∨ j = 1 ∨ j = 2 ∨ j = 3 ∨ j = 4 ∨ j = 5 ∨ j = 6 ∨ j = 7 := by omega
  rcases h with h | h | h | h | h | h | h | h <;> subst h <;> rfl
theorem nf_6 : ∀ j, j < 6 → defaultValue (tyX6 j) = vp_V (pq_nf 6) j := by
  intro j hj
  have h : j = 0 ∨ j = 1 ∨ j = 2 ∨ j = 3 ∨ j = 4 ∨ j = 5 := by omega
  rcases h with h | h | h | h | h | h <;> subst h <;> rfl
theorem nf_8 : ∀ j, j < 4 → defaultValue (tyX8 j) = vp_V (pq_nf 8) j := by
  intro j hj
  have h : j = 0 ∨ j = 1 ∨ j = 2 ∨ j = 3 := by omega
  rcases h with h | h | h | h <;> subst h <;> rfl
theorem nf_4 : ∀ j, j < 12 → defaultValue (tyX4 j) = vp_V (pq_nf 4) j := by
  intro j hj
  have h : j = 0 ∨ j = 1 ∨ j = 2 ∨ j = 3 ∨ j = 4 ∨ j = 5 ∨ j = 6 ∨ j = 7 ∨ j = 8 ∨ j = 9 ∨ j = 10 ∨ j = 11 := by omega
  rcases h with h | h | h | h | h | h | h | h | h | h | h | h <;> subst h <;> rfl
theorem nf_11 : ∀ j, j < 5 → defaultValue (tyX11 j) = vp_V (pq_nf 11) j := by
  intro j hj
  have h : j = 0 ∨ j = 1 ∨ j = 2 ∨ j = 3 ∨ j = 4 := by omega
  rcases h with h | h | h | h | h <;> subst h <;> rfl
theorem nf_12 : ∀ j, j < 31 → defaultValue (tyX12 j) = vp_V (pq_nf 12) j := by
  intro j hj
  have h : j = 0 ∨ j = 1 ∨ j = 2 ∨ j = 3 ∨ j = 4 ∨ j = 5 ∨ j = 6 ∨ j = 7 ∨ j = 8 ∨ j = 9 ∨ j = 10 ∨ j = 11 ∨ j = 12 ∨ j = 13 ∨ j = 14 ∨ j = 15 ∨ j = 16 ∨ j = 17 ∨ j = 18 ∨ j = 19 ∨ j = 20 ∨ j = 21 ∨ j = 22 ∨ j = 23 ∨ j = 24 ∨ j = 25 ∨ j = 26 ∨ j = 27 ∨ j = 28 ∨ j = 29 ∨ j = 30 := by omega
  rcases h with h | h | h | h | h | h | h | h | h | h | h | h | h | h | h | h | h | h | h | h | h | h | h | h | h | h | h | h | h | h | h <;> subst h <;> rfl
theorem pr_1 (R : Nat → Nat → Option Nat) (I : Nat → Nat → Int32) (J : Nat → Nat → Int64) (a q : Nat) : pq_fl (pq_u R 1 a (some q)) I J 0 a = (pq_fl R I J 0 a).set 1 (.ref q) := by simp [pq_fl, pq_u, va_up, va_rf]
theorem pr_2 (R : Nat → Nat → Option Nat) (I : Nat → Nat → Int32) (J : Nat → Nat → Int64) (a q : Nat) : pq_fl (pq_u R 2 a (some q)) I J 0 a = (pq_fl R I J 0 a).set 2 (.ref q) := by simp [pq_fl, pq_u, va_up, va_rf]
theorem pr_3 (R : Nat → Nat → Option Nat) (I : Nat → Nat → Int32) (J : Nat → Nat → Int64) (a q : Nat) : pq_fl (pq_u R 3 a (some q)) I J 0 a = (pq_fl R I J 0 a).set 3 (.ref q) := by simp [pq_fl, pq_u, va_up, va_rf]
theorem pr_4 (R : Nat → Nat → Option Nat) (I : Nat → Nat → Int32) (J : Nat → Nat → Int64) (a q : Nat) : pq_fl (pq_u R 4 a (some q)) I J 0 a = (pq_fl R I J 0 a).set 4 (.ref q) := by simp [pq_fl, pq_u, va_up, va_rf]
theorem pr_5 (R : Nat → Nat → Option Nat) (I : Nat → Nat → Int32) (J : Nat → Nat → Int64) (a q : Nat) : pq_fl (pq_u R 5 a (some q)) I J 0 a = (pq_fl R I J 0 a).set 5 (.ref q) := by simp [pq_fl, pq_u, va_up, va_rf]
theorem pr_6 (R : Nat → Nat → Option Nat) (I : Nat → Nat → Int32) (J : Nat → Nat → Int64) (a q : Nat) : pq_fl (pq_u R 6 a (some q)) I J 0 a = (pq_fl R I J 0 a).set 6 (.ref q) := by simp [pq_fl, pq_u, va_up, va_rf]
theorem pr_7 (R : Nat → Nat → Option Nat) (I : Nat → Nat → Int32) (J : Nat → Nat → Int64) (a q : Nat) : pq_fl (pq_u R 7 a (some q)) I J 0 a = (pq_fl R I J 0 a).set 7 (.ref q) := by simp [pq_fl, pq_u, va_up, va_rf]
theorem pr_8 (R : Nat → Nat → Option Nat) (I : Nat → Nat → Int32) (J : Nat → Nat → Int64) (a q : Nat) : pq_fl (pq_u R 8 a (some q)) I J 0 a = (pq_fl R I J 0 a).set 8 (.ref q) := by simp [pq_fl, pq_u, va_up, va_rf]
theorem pr_9 (R : Nat → Nat → Option Nat) (I : Nat → Nat → Int32) (J : Nat → Nat → Int64) (a q : Nat) : pq_fl (pq_u R 9 a (some q)) I J 0 a = (pq_fl R I J 0 a).set 9 (.ref q) := by simp [pq_fl, pq_u, va_up, va_rf]
theorem pr_11 (R : Nat → Nat → Option Nat) (I : Nat → Nat → Int32) (J : Nat → Nat → Int64) (a q : Nat) : pq_fl (pq_u R 11 a (some q)) I J 0 a = (pq_fl R I J 0 a).set 11 (.ref q) := by simp [pq_fl, pq_u, va_up, va_rf]
theorem pr_12 (R : Nat → Nat → Option Nat) (I : Nat → Nat → Int32) (J : Nat → Nat → Int64) (a q : Nat) : pq_fl (pq_u R 12 a (some q)) I J 0 a = (pq_fl R I J 0 a).set 12 (.ref q) := by simp [pq_fl, pq_u, va_up, va_rf]
theorem pr_13 (R : Nat → Nat → Option Nat) (I : Nat → Nat → Int32) (J : Nat → Nat → Int64) (a q : Nat) : pq_fl (pq_u R 13 a (some q)) I J 0 a = (pq_fl R I J 0 a).set 13 (.ref q) := by simp [pq_fl, pq_u, va_up, va_rf]
theorem pr_14 (R : Nat → Nat → Option Nat) (I : Nat → Nat → Int32) (J : Nat → Nat → Int64) (a q : Nat) : pq_fl (pq_u R 14 a (some q)) I J 0 a = (pq_fl R I J 0 a).set 14 (.ref q) := by simp [pq_fl, pq_u, va_up, va_rf]
theorem pr_15 (R : Nat → Nat → Option Nat) (I : Nat → Nat → Int32) (J : Nat → Nat → Int64) (a q : Nat) : pq_fl (pq_u R 15 a (some q)) I J 0 a = (pq_fl R I J 0 a).set 15 (.ref q) := by simp [pq_fl, pq_u, va_up, va_rf]
theorem pr_33 (R : Nat → Nat → Option Nat) (I : Nat → Nat → Int32) (J : Nat → Nat → Int64) (a q : Nat) : pq_fl (pq_u R 33 a (some q)) I J 1 a = (pq_fl R I J 1 a).set 1 (.ref q) := by simp [pq_fl, pq_u, va_up, va_rf]
theorem pr_34 (R : Nat → Nat → Option Nat) (I : Nat → Nat → Int32) (J : Nat → Nat → Int64) (a q : Nat) : pq_fl (pq_u R 34 a (some q)) I J 1 a = (pq_fl R I J 1 a).set 2 (.ref q) := by simp [pq_fl, pq_u, va_up, va_rf]
theorem pr_68 (R : Nat → Nat → Option Nat) (I : Nat → Nat → Int32) (J : Nat → Nat → Int64) (a q : Nat) : pq_fl (pq_u R 68 a (some q)) I J 2 a = (pq_fl R I J 2 a).set 4 (.ref q) := by simp [pq_fl, pq_u, va_up, va_rf]
theorem pr_69 (R : Nat → Nat → Option Nat) (I : Nat → Nat → Int32) (J : Nat → Nat → Int64) (a q : Nat) : pq_fl (pq_u R 69 a (some q)) I J 2 a = (pq_fl R I J 2 a).set 5 (.ref q) := by simp [pq_fl, pq_u, va_up, va_rf]
theorem pr_70 (R : Nat → Nat → Option Nat) (I : Nat → Nat → Int32) (J : Nat → Nat → Int64) (a q : Nat) : pq_fl (pq_u R 70 a (some q)) I J 2 a = (pq_fl R I J 2 a).set 6 (.ref q) := by simp [pq_fl, pq_u, va_up, va_rf]
theorem pr_71 (R : Nat → Nat → Option Nat) (I : Nat → Nat → Int32) (J : Nat → Nat → Int64) (a q : Nat) : pq_fl (pq_u R 71 a (some q)) I J 2 a = (pq_fl R I J 2 a).set 7 (.ref q) := by simp [pq_fl, pq_u, va_up, va_rf]
theorem pr_72 (R : Nat → Nat → Option Nat) (I : Nat → Nat → Int32) (J : Nat → Nat → Int64) (a q : Nat) : pq_fl (pq_u R 72 a (some q)) I J 2 a = (pq_fl R I J 2 a).set 8 (.ref q) := by simp [pq_fl, pq_u, va_up, va_rf]
theorem pr_73 (R : Nat → Nat → Option Nat) (I : Nat → Nat → Int32) (J : Nat → Nat → Int64) (a q : Nat) : pq_fl (pq_u R 73 a (some q)) I J 2 a = (pq_fl R I J 2 a).set 9 (.ref q) := by simp [pq_fl, pq_u, va_up, va_rf]
theorem pr_74 (R : Nat → Nat → Option Nat) (I : Nat → Nat → Int32) (J : Nat → Nat → Int64) (a q : Nat) : pq_fl (pq_u R 74 a (some q)) I J 2 a = (pq_fl R I J 2 a).set 10 (.ref q) := by simp [pq_fl, pq_u, va_up, va_rf]
theorem pr_75 (R : Nat → Nat → Option Nat) (I : Nat → Nat → Int32) (J : Nat → Nat → Int64) (a q : Nat) : pq_fl (pq_u R 75 a (some q)) I J 2 a = (pq_fl R I J 2 a).set 11 (.ref q) := by simp [pq_fl, pq_u, va_up, va_rf]
theorem pr_76 (R : Nat → Nat → Option Nat) (I : Nat → Nat → Int32) (J : Nat → Nat → Int64) (a q : Nat) : pq_fl (pq_u R 76 a (some q)) I J 2 a = (pq_fl R I J 2 a).set 12 (.ref q) := by simp [pq_fl, pq_u, va_up, va_rf]
theorem pr_77 (R : Nat → Nat → Option Nat) (I : Nat → Nat → Int32) (J : Nat → Nat → Int64) (a q : Nat) : pq_fl (pq_u R 77 a (some q)) I J 2 a = (pq_fl R I J 2 a).set 13 (.ref q) := by simp [pq_fl, pq_u, va_up, va_rf]
theorem pr_78 (R : Nat → Nat → Option Nat) (I : Nat → Nat → Int32) (J : Nat → Nat → Int64) (a q : Nat) : pq_fl (pq_u R 78 a (some q)) I J 2 a = (pq_fl R I J 2 a).set 14 (.ref q) := by simp [pq_fl, pq_u, va_up, va_rf]
theorem pr_79 (R : Nat → Nat → Option Nat) (I : Nat → Nat → Int32) (J : Nat → Nat → Int64) (a q : Nat) : pq_fl (pq_u R 79 a (some q)) I J 2 a = (pq_fl R I J 2 a).set 15 (.ref q) := by simp [pq_fl, pq_u, va_up, va_rf]
theorem pr_80 (R : Nat → Nat → Option Nat) (I : Nat → Nat → Int32) (J : Nat → Nat → Int64) (a q : Nat) : pq_fl (pq_u R 80 a (some q)) I J 2 a = (pq_fl R I J 2 a).set 16 (.ref q) := by simp [pq_fl, pq_u, va_up, va_rf]
theorem pr_81 (R : Nat → Nat → Option Nat) (I : Nat → Nat → Int32) (J : Nat → Nat → Int64) (a q : Nat) : pq_fl (pq_u R 81 a (some q)) I J 2 a = (pq_fl R I J 2 a).set 17 (.ref q) := by simp [pq_fl, pq_u, va_up, va_rf]
theorem pr_82 (R : Nat → Nat → Option Nat) (I : Nat → Nat → Int32) (J : Nat → Nat → Int64) (a q : Nat) : pq_fl (pq_u R 82 a (some q)) I J 2 a = (pq_fl R I J 2 a).set 18 (.ref q) := by simp [pq_fl, pq_u, va_up, va_rf]
theorem pr_83 (R : Nat → Nat → Option Nat) (I : Nat → Nat → Int32) (J : Nat → Nat → Int64) (a q : Nat) : pq_fl (pq_u R 83 a (some q)) I J 2 a = (pq_fl R I J 2 a).set 19 (.ref q) := by simp [pq_fl, pq_u, va_up, va_rf]
theorem pr_97 (R : Nat → Nat → Option Nat) (I : Nat → Nat → Int32) (J : Nat → Nat → Int64) (a q : Nat) : pq_fl (pq_u R 97 a (some q)) I J 3 a = (pq_fl R I J 3 a).set 1 (.ref q) := by simp [pq_fl, pq_u, va_up, va_rf]
theorem pr_99 (R : Nat → Nat → Option Nat) (I : Nat → Nat → Int32) (J : Nat → Nat → Int64) (a q : Nat) : pq_fl (pq_u R 99 a (some q)) I J 3 a = (pq_fl R I J 3 a).set 3 (.ref q) := by simp [pq_fl, pq_u, va_up, va_rf]
theorem pr_100 (R : Nat → Nat → Option Nat) (I : Nat → Nat → Int32) (J : Nat → Nat → Int64) (a q : Nat) : pq_fl (pq_u R 100 a (some q)) I J 3 a = (pq_fl R I J 3 a).set 4 (.ref q) := by simp [pq_fl, pq_u, va_up, va_rf]
theorem pr_101 (R : Nat → Nat → Option Nat) (I : Nat → Nat → Int32) (J : Nat → Nat → Int64) (a q : Nat) : pq_fl (pq_u R 101 a (some q)) I J 3 a = (pq_fl R I J 3 a).set 5 (.ref q) := by simp [pq_fl, pq_u, va_up, va_rf]
theorem pr_102 (R : Nat → Nat → Option Nat) (I : Nat → Nat → Int32) (J : Nat → Nat → Int64) (a q : Nat) : pq_fl (pq_u R 102 a (some q)) I J 3 a = (pq_fl R I J 3 a).set 6 (.ref q) := by simp [pq_fl, pq_u, va_up, va_rf]
theorem pr_103 (R : Nat → Nat → Option Nat) (I : Nat → Nat → Int32) (J : Nat → Nat → Int64) (a q : Nat) : pq_fl (pq_u R 103 a (some q)) I J 3 a = (pq_fl R I J 3 a).set 7 (.ref q) := by simp [pq_fl, pq_u, va_up, va_rf]
theorem pr_128 (R : Nat → Nat → Option Nat) (I : Nat → Nat → Int32) (J : Nat → Nat → Int64) (a q : Nat) : pq_fl (pq_u R 128 a (some q)) I J 4 a = (pq_fl R I J 4 a).set 0 (.ref q) := by simp [pq_fl, pq_u, va_up, va_rf]
theorem pr_131 (R : Nat → Nat → Option Nat) (I : Nat → Nat → Int32) (J : Nat → Nat → Int64) (a q : Nat) : pq_fl (pq_u R 131 a (some q)) I J 4 a = (pq_fl R I J 4 a).set 3 (.ref q) := by simp [pq_fl, pq_u, va_up, va_rf]
theorem pr_133 (R : Nat → Nat → Option Nat) (I : Nat → Nat → Int32) (J : Nat → Nat → Int64) (a q : Nat) : pq_fl (pq_u R 133 a (some q)) I J 4 a = (pq_fl R I J 4 a).set 5 (.ref q) := by simp [pq_fl, pq_u, va_up, va_rf]
theorem pr_161 (R : Nat → Nat → Option Nat) (I : Nat → Nat → Int32) (J : Nat → Nat → Int64) (a q : Nat) : pq_fl (pq_u R 161 a (some q)) I J 5 a = (pq_fl R I J 5 a).set 1 (.ref q) := by simp [pq_fl, pq_u, va_up, va_rf]
theorem pr_162 (R : Nat → Nat → Option Nat) (I : Nat → Nat → Int32) (J : Nat → Nat → Int64) (a q : Nat) : pq_fl (pq_u R 162 a (some q)) I J 5 a = (pq_fl R I J 5 a).set 2 (.ref q) := by simp [pq_fl, pq_u, va_up, va_rf]
theorem pr_163 (R : Nat → Nat → Option Nat) (I : Nat → Nat → Int32) (J : Nat → Nat → Int64) (a q : Nat) : pq_fl (pq_u R 163 a (some q)) I J 5 a = (pq_fl R I J 5 a).set 3 (.ref q) := by simp [pq_fl, pq_u, va_up, va_rf]
theorem pr_165 (R : Nat → Nat → Option Nat) (I : Nat → Nat → Int32) (J : Nat → Nat → Int64) (a q : Nat) : pq_fl (pq_u R 165 a (some q)) I J 5 a = (pq_fl R I J 5 a).set 5 (.ref q) := by simp [pq_fl, pq_u, va_up, va_rf]
theorem pr_166 (R : Nat → Nat → Option Nat) (I : Nat → Nat → Int32) (J : Nat → Nat → Int64) (a q : Nat) : pq_fl (pq_u R 166 a (some q)) I J 5 a = (pq_fl R I J 5 a).set 6 (.ref q) := by simp [pq_fl, pq_u, va_up, va_rf]
theorem pr_167 (R : Nat → Nat → Option Nat) (I : Nat → Nat → Int32) (J : Nat → Nat → Int64) (a q : Nat) : pq_fl (pq_u R 167 a (some q)) I J 5 a = (pq_fl R I J 5 a).set 7 (.ref q) := by simp [pq_fl, pq_u, va_up, va_rf]
theorem pr_192 (R : Nat → Nat → Option Nat) (I : Nat → Nat → Int32) (J : Nat → Nat → Int64) (a q : Nat) : pq_fl (pq_u R 192 a (some q)) I J 6 a = (pq_fl R I J 6 a).set 0 (.ref q) := by simp [pq_fl, pq_u, va_up, va_rf]
theorem pr_225 (R : Nat → Nat → Option Nat) (I : Nat → Nat → Int32) (J : Nat → Nat → Int64) (a q : Nat) : pq_fl (pq_u R 225 a (some q)) I J 7 a = (pq_fl R I J 7 a).set 1 (.ref q) := by simp [pq_fl, pq_u, va_up, va_rf]
theorem pr_226 (R : Nat → Nat → Option Nat) (I : Nat → Nat → Int32) (J : Nat → Nat → Int64) (a q : Nat) : pq_fl (pq_u R 226 a (some q)) I J 7 a = (pq_fl R I J 7 a).set 2 (.ref q) := by simp [pq_fl, pq_u, va_up, va_rf]
theorem pr_227 (R : Nat → Nat → Option Nat) (I : Nat → Nat → Int32) (J : Nat → Nat → Int64) (a q : Nat) : pq_fl (pq_u R 227 a (some q)) I J 7 a = (pq_fl R I J 7 a).set 3 (.ref q) := by simp [pq_fl, pq_u, va_up, va_rf]
theorem pr_228 (R : Nat → Nat → Option Nat) (I : Nat → Nat → Int32) (J : Nat → Nat → Int64) (a q : Nat) : pq_fl (pq_u R 228 a (some q)) I J 7 a = (pq_fl R I J 7 a).set 4 (.ref q) := by simp [pq_fl, pq_u, va_up, va_rf]
theorem pr_229 (R : Nat → Nat → Option Nat) (I : Nat → Nat → Int32) (J : Nat → Nat → Int64) (a q : Nat) : pq_fl (pq_u R 229 a (some q)) I J 7 a = (pq_fl R I J 7 a).set 5 (.ref q) := by simp [pq_fl, pq_u, va_up, va_rf]
theorem pr_230 (R : Nat → Nat → Option Nat) (I : Nat → Nat → Int32) (J : Nat → Nat → Int64) (a q : Nat) : pq_fl (pq_u R 230 a (some q)) I J 7 a = (pq_fl R I J 7 a).set 6 (.ref q) := by simp [pq_fl, pq_u, va_up, va_rf]
theorem pr_231 (R : Nat → Nat → Option Nat) (I : Nat → Nat → Int32) (J : Nat → Nat → Int64) (a q : Nat) : pq_fl (pq_u R 231 a (some q)) I J 7 a = (pq_fl R I J 7 a).set 7 (.ref q) := by simp [pq_fl, pq_u, va_up, va_rf]
theorem pr_232 (R : Nat → Nat → Option Nat) (I : Nat → Nat → Int32) (J : Nat → Nat → Int64) (a q : Nat) : pq_fl (pq_u R 232 a (some q)) I J 7 a = (pq_fl R I J 7 a).set 8 (.ref q) := by simp [pq_fl, pq_u, va_up, va_rf]
theorem pr_233 (R : Nat → Nat → Option Nat) (I : Nat → Nat → Int32) (J : Nat → Nat → Int64) (a q : Nat) : pq_fl (pq_u R 233 a (some q)) I J 7 a = (pq_fl R I J 7 a).set 9 (.ref q) := by simp [pq_fl, pq_u, va_up, va_rf]
theorem pr_257 (R : Nat → Nat → Option Nat) (I : Nat → Nat → Int32) (J : Nat → Nat → Int64) (a q : Nat) : pq_fl (pq_u R 257 a (some q)) I J 8 a = (pq_fl R I J 8 a).set 1 (.ref q) := by simp [pq_fl, pq_u, va_up, va_rf]
theorem pr_258 (R : Nat → Nat → Option Nat) (I : Nat → Nat → Int32) (J : Nat → Nat → Int64) (a q : Nat) : pq_fl (pq_u R 258 a (some q)) I J 8 a = (pq_fl R I J 8 a).set 2 (.ref q) := by simp [pq_fl, pq_u, va_up, va_rf]
theorem pr_259 (R : Nat → Nat → Option Nat) (I : Nat → Nat → Int32) (J : Nat → Nat → Int64) (a q : Nat) : pq_fl (pq_u R 259 a (some q)) I J 8 a = (pq_fl R I J 8 a).set 3 (.ref q) := by simp [pq_fl, pq_u, va_up, va_rf]
theorem pr_288 (R : Nat → Nat → Option Nat) (I : Nat → Nat → Int32) (J : Nat → Nat → Int64) (a q : Nat) : pq_fl (pq_u R 288 a (some q)) I J 9 a = (pq_fl R I J 9 a).set 0 (.ref q) := by simp [pq_fl, pq_u, va_up, va_rf]
theorem pr_289 (R : Nat → Nat → Option Nat) (I : Nat → Nat → Int32) (J : Nat → Nat → Int64) (a q : Nat) : pq_fl (pq_u R 289 a (some q)) I J 9 a = (pq_fl R I J 9 a).set 1 (.ref q) := by simp [pq_fl, pq_u, va_up, va_rf]
theorem pr_290 (R : Nat → Nat → Option Nat) (I : Nat → Nat → Int32) (J : Nat → Nat → Int64) (a q : Nat) : pq_fl (pq_u R 290 a (some q)) I J 9 a = (pq_fl R I J 9 a).set 2 (.ref q) := by simp [pq_fl, pq_u, va_up, va_rf]
theorem pr_325 (R : Nat → Nat → Option Nat) (I : Nat → Nat → Int32) (J : Nat → Nat → Int64) (a q : Nat) : pq_fl (pq_u R 325 a (some q)) I J 10 a = (pq_fl R I J 10 a).set 5 (.ref q) := by simp [pq_fl, pq_u, va_up, va_rf]
theorem pr_326 (R : Nat → Nat → Option Nat) (I : Nat → Nat → Int32) (J : Nat → Nat → Int64) (a q : Nat) : pq_fl (pq_u R 326 a (some q)) I J 10 a = (pq_fl R I J 10 a).set 6 (.ref q) := by simp [pq_fl, pq_u, va_up, va_rf]
theorem pr_327 (R : Nat → Nat → Option Nat) (I : Nat → Nat → Int32) (J : Nat → Nat → Int64) (a q : Nat) : pq_fl (pq_u R 327 a (some q)) I J 10 a = (pq_fl R I J 10 a).set 7 (.ref q) := by simp [pq_fl, pq_u, va_up, va_rf]
theorem pr_328 (R : Nat → Nat → Option Nat) (I : Nat → Nat → Int32) (J : Nat → Nat → Int64) (a q : Nat) : pq_fl (pq_u R 328 a (some q)) I J 10 a = (pq_fl R I J 10 a).set 8 (.ref q) := by simp [pq_fl, pq_u, va_up, va_rf]
theorem pr_329 (R : Nat → Nat → Option Nat) (I : Nat → Nat → Int32) (J : Nat → Nat → Int64) (a q : Nat) : pq_fl (pq_u R 329 a (some q)) I J 10 a = (pq_fl R I J 10 a).set 9 (.ref q) := by simp [pq_fl, pq_u, va_up, va_rf]
theorem pr_330 (R : Nat → Nat → Option Nat) (I : Nat → Nat → Int32) (J : Nat → Nat → Int64) (a q : Nat) : pq_fl (pq_u R 330 a (some q)) I J 10 a = (pq_fl R I J 10 a).set 10 (.ref q) := by simp [pq_fl, pq_u, va_up, va_rf]
theorem pr_331 (R : Nat → Nat → Option Nat) (I : Nat → Nat → Int32) (J : Nat → Nat → Int64) (a q : Nat) : pq_fl (pq_u R 331 a (some q)) I J 10 a = (pq_fl R I J 10 a).set 11 (.ref q) := by simp [pq_fl, pq_u, va_up, va_rf]
theorem pr_332 (R : Nat → Nat → Option Nat) (I : Nat → Nat → Int32) (J : Nat → Nat → Int64) (a q : Nat) : pq_fl (pq_u R 332 a (some q)) I J 10 a = (pq_fl R I J 10 a).set 12 (.ref q) := by simp [pq_fl, pq_u, va_up, va_rf]
theorem pr_352 (R : Nat → Nat → Option Nat) (I : Nat → Nat → Int32) (J : Nat → Nat → Int64) (a q : Nat) : pq_fl (pq_u R 352 a (some q)) I J 11 a = (pq_fl R I J 11 a).set 0 (.ref q) := by simp [pq_fl, pq_u, va_up, va_rf]
theorem pr_353 (R : Nat → Nat → Option Nat) (I : Nat → Nat → Int32) (J : Nat → Nat → Int64) (a q : Nat) : pq_fl (pq_u R 353 a (some q)) I J 11 a = (pq_fl R I J 11 a).set 1 (.ref q) := by simp [pq_fl, pq_u, va_up, va_rf]
theorem pr_354 (R : Nat → Nat → Option Nat) (I : Nat → Nat → Int32) (J : Nat → Nat → Int64) (a q : Nat) : pq_fl (pq_u R 354 a (some q)) I J 11 a = (pq_fl R I J 11 a).set 2 (.ref q) := by simp [pq_fl, pq_u, va_up, va_rf]
theorem pr_355 (R : Nat → Nat → Option Nat) (I : Nat → Nat → Int32) (J : Nat → Nat → Int64) (a q : Nat) : pq_fl (pq_u R 355 a (some q)) I J 11 a = (pq_fl R I J 11 a).set 3 (.ref q) := by simp [pq_fl, pq_u, va_up, va_rf]
theorem pr_356 (R : Nat → Nat → Option Nat) (I : Nat → Nat → Int32) (J : Nat → Nat → Int64) (a q : Nat) : pq_fl (pq_u R 356 a (some q)) I J 11 a = (pq_fl R I J 11 a).set 4 (.ref q) := by simp [pq_fl, pq_u, va_up, va_rf]
theorem pr_384 (R : Nat → Nat → Option Nat) (I : Nat → Nat → Int32) (J : Nat → Nat → Int64) (a q : Nat) : pq_fl (pq_u R 384 a (some q)) I J 12 a = (pq_fl R I J 12 a).set 0 (.ref q) := by simp [pq_fl, pq_u, va_up, va_rf]
theorem pr_385 (R : Nat → Nat → Option Nat) (I : Nat → Nat → Int32) (J : Nat → Nat → Int64) (a q : Nat) : pq_fl (pq_u R 385 a (some q)) I J 12 a = (pq_fl R I J 12 a).set 1 (.ref q) := by simp [pq_fl, pq_u, va_up, va_rf]
theorem pr_386 (R : Nat → Nat → Option Nat) (I : Nat → Nat → Int32) (J : Nat → Nat → Int64) (a q : Nat) : pq_fl (pq_u R 386 a (some q)) I J 12 a = (pq_fl R I J 12 a).set 2 (.ref q) := by simp [pq_fl, pq_u, va_up, va_rf]
theorem pr_387 (R : Nat → Nat → Option Nat) (I : Nat → Nat → Int32) (J : Nat → Nat → Int64) (a q : Nat) : pq_fl (pq_u R 387 a (some q)) I J 12 a = (pq_fl R I J 12 a).set 3 (.ref q) := by simp [pq_fl, pq_u, va_up, va_rf]
theorem pr_400 (R : Nat → Nat → Option Nat) (I : Nat → Nat → Int32) (J : Nat → Nat → Int64) (a q : Nat) : pq_fl (pq_u R 400 a (some q)) I J 12 a = (pq_fl R I J 12 a).set 16 (.ref q) := by simp [pq_fl, pq_u, va_up, va_rf]
theorem pr_404 (R : Nat → Nat → Option Nat) (I : Nat → Nat → Int32) (J : Nat → Nat → Int64) (a q : Nat) : pq_fl (pq_u R 404 a (some q)) I J 12 a = (pq_fl R I J 12 a).set 20 (.ref q) := by simp [pq_fl, pq_u, va_up, va_rf]
theorem pr_405 (R : Nat → Nat → Option Nat) (I : Nat → Nat → Int32) (J : Nat → Nat → Int64) (a q : Nat) : pq_fl (pq_u R 405 a (some q)) I J 12 a = (pq_fl R I J 12 a).set 21 (.ref q) := by simp [pq_fl, pq_u, va_up, va_rf]
theorem pr_408 (R : Nat → Nat → Option Nat) (I : Nat → Nat → Int32) (J : Nat → Nat → Int64) (a q : Nat) : pq_fl (pq_u R 408 a (some q)) I J 12 a = (pq_fl R I J 12 a).set 24 (.ref q) := by simp [pq_fl, pq_u, va_up, va_rf]
theorem pr_409 (R : Nat → Nat → Option Nat) (I : Nat → Nat → Int32) (J : Nat → Nat → Int64) (a q : Nat) : pq_fl (pq_u R 409 a (some q)) I J 12 a = (pq_fl R I J 12 a).set 25 (.ref q) := by simp [pq_fl, pq_u, va_up, va_rf]
theorem pr_411 (R : Nat → Nat → Option Nat) (I : Nat → Nat → Int32) (J : Nat → Nat → Int64) (a q : Nat) : pq_fl (pq_u R 411 a (some q)) I J 12 a = (pq_fl R I J 12 a).set 27 (.ref q) := by simp [pq_fl, pq_u, va_up, va_rf]
theorem pr_412 (R : Nat → Nat → Option Nat) (I : Nat → Nat → Int32) (J : Nat → Nat → Int64) (a q : Nat) : pq_fl (pq_u R 412 a (some q)) I J 12 a = (pq_fl R I J 12 a).set 28 (.ref q) := by simp [pq_fl, pq_u, va_up, va_rf]
theorem pr_413 (R : Nat → Nat → Option Nat) (I : Nat → Nat → Int32) (J : Nat → Nat → Int64) (a q : Nat) : pq_fl (pq_u R 413 a (some q)) I J 12 a = (pq_fl R I J 12 a).set 29 (.ref q) := by simp [pq_fl, pq_u, va_up, va_rf]
theorem pr_414 (R : Nat → Nat → Option Nat) (I : Nat → Nat → Int32) (J : Nat → Nat → Int64) (a q : Nat) : pq_fl (pq_u R 414 a (some q)) I J 12 a = (pq_fl R I J 12 a).set 30 (.ref q) := by simp [pq_fl, pq_u, va_up, va_rf]
