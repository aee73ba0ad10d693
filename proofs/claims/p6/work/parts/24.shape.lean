/-! ===== making the objects: what stands where, and what stays ===== -/
/-- from one shape to the next, but for field f of the cell a: the cells that were there stay as they were -/
def Es (f a : Nat) (σ σ' : pq_S) (I I' : Nat → Nat → Int32) : Prop := ∀ b, b ∈ σ.1 → b ∈ σ'.1 ∧ σ'.2.1 b = σ.2.1 b ∧ σ'.2.2.2 b = σ.2.2.2 b ∧ (∀ g, (g ≠ f ∨ b ≠ a) → σ'.2.2.1 g b = σ.2.2.1 g b) ∧ ∀ g, I' g b = I g b
theorem Es_at {f a b : Nat} {σ σ' : pq_S} {I I' : Nat → Nat → Int32} (h : Es f a σ σ' I I') (hb : b ∈ σ.1) : b ∈ σ'.1 := (h b hb).1
theorem Es_k {f a b k : Nat} {σ σ' : pq_S} {I I' : Nat → Nat → Int32} (h : Es f a σ σ' I I') (hb : b ∈ σ.1) (hk : σ.2.1 b = k) : σ'.2.1 b = k := (h b hb).2.1.trans hk
/-- a new row stands in field f of a -/
def As (f a q k n : Nat) (σ σ1 : pq_S) : Prop := q ∉ σ.1 ∧ σ1 = (σ.1 ++ [q], va_up σ.2.1 q k, pq_u σ.2.2.1 f a (some q), va_up σ.2.2.2 q n)
theorem As_es {f a q k n : Nat} {σ σ1 : pq_S} {I : Nat → Nat → Int32} (h : As f a q k n σ σ1) : Es f a σ σ1 I I := fun b hb => by
  obtain ⟨h1, rfl⟩ := h
  have hne : b ≠ q := fun z => h1 (z ▸ hb)
  refine ⟨List.mem_append_left _ hb, va_up_ne _ _ hne, va_up_ne _ _ hne, fun g hg => ?_, fun _ => rfl⟩
  show pq_u σ.2.2.1 f a (some q) g b = _
  rcases hg with hg | hg
  · rw [pq_uf _ _ _ hg]
  · exact pq_ua _ _ _ _ hg
/-- a new object: blank -/
def Ns (q k : Nat) (σ σ1 : pq_S) (I I1 : Nat → Nat → Int32) : Prop := q ∉ σ.1 ∧ σ1 = (σ.1 ++ [q], va_up σ.2.1 q k, pq_R0 σ.2.2.1 q, σ.2.2.2) ∧ I1 = pq_I0 I q
theorem Ns_in {q k : Nat} {σ σ1 : pq_S} {I I1 : Nat → Nat → Int32} (h : Ns q k σ σ1 I I1) : q ∈ σ1.1 := by
  obtain ⟨-, rfl, -⟩ := h
  exact List.mem_append_right _ (List.mem_singleton.mpr rfl)
theorem Ns_k {q k : Nat} {σ σ1 : pq_S} {I I1 : Nat → Nat → Int32} (h : Ns q k σ σ1 I I1) : σ1.2.1 q = k := by
  obtain ⟨-, rfl, -⟩ := h
  exact va_up_self _ _ _
/-- a reference is written -/
def Ps (f a q : Nat) (σ σ1 : pq_S) : Prop := σ1 = (σ.1, σ.2.1, pq_u σ.2.2.1 f a (some q), σ.2.2.2)
section PQE
variable {p : Program} {l : Launch} {e : Env} {R : Room} {s : State} {m : MethodId} {args : Array Value} {below : List Frame} {meth : Method} {c : Code} {H : Heap} {locs : List Loc} {cells slots : Nat} {Q : State → Prop}
variable {cc : ByteArray} {pc : Nat} {ls : Array Slot} {rest : List Value} {D : va_G} {A : Nat → Prop} {a : Nat} {t : pq_T} {σ : pq_S} {H0 : Heap}
variable {I : Nat → Nat → Int32} {J : Nat → Nat → Int64} {ri : Nat → Nat → Int32} {rj : Nat → Nat → Int64} {rq : Nat → Nat → Option Nat}
theorem pq_flR {R : Nat → Nat → Option Nat} {I : Nat → Nat → Int32} {J : Nat → Nat → Int64} {k a b f : Nat} {v : Option Nat} (h : b ≠ a) : pq_fl (pq_u R f a v) I J k b = pq_fl R I J k b := by
  unfold pq_fl
  split <;> simp only [pq_ua _ _ _ _ h]
theorem pq_ER {t : pq_T} {L : List Nat} {K : Nat → Nat} {Rr : Nat → Nat → Option Nat} {N : Nat → Nat} {μ : pq_M} {a b f : Nat} {v : Option Nat} (h : b ≠ a) : pq_E t (L, K, pq_u Rr f a v, N) μ b = pq_E t (L, K, Rr, N) μ b := by
  have e : ∀ k, pq_fl (pq_u Rr f a v) μ.1 μ.2.1 k b = pq_fl Rr μ.1 μ.2.1 k b := fun k => pq_flR h
  unfold pq_E
  simp only [e]
/-- a final field of references, in a constructor -/
theorem pr_F (hx : p.tables.exec = Jvm.exec) (hb : c.code = cc) {own C : String} {T : u_T} {N k index : Nat} {Ts : List Cond} {μ : pq_M} (hts : ∀ w ∈ Ts, w.before args s = true) (hin : ∀ w ∈ u_ws C T N, w ∈ Ts) (ty0 : Nat → FieldType) (hty : ∀ k, k < N → parseFieldDescriptor (T k).2.2.1 = some (ty0 k)) (hnm : ∀ a, a < N → ∀ b, b < N → a ≠ b → (T a).2.1 ≠ (T b).2.1) (hown : s.vm.findClass own = some m.cls) (hK : va_K D vwCl (pq_ty t) s) (hP : va_P D vwCl (pq_P t σ μ) H) (hD : va_D A (pq_P t σ μ)) (hS : va_S A H0 H locs) (hL : a ∈ σ.1) (hk : σ.2.1 a = k) (h13 : k < 13) (hc : vwCl[k]? = some (C, T, N)) (j f : Nat) (hj : j < N) (hlink : (Cond.fieldLink own index (T j).1 (T j).2.1 (T j).2.2.1).before args s = true) (hfin : (T j).2.2.2 = true) (hin2 : meth.name = "<init>") (hdecl : (T j).1 = own) {ty : FieldType} {q : Nat} (hd : parseFieldDescriptor (T j).2.2.1 = some ty) (hn : narrow ty (.ref q) = .ref q) (hfit : fits ty (.ref q) = true) (hl : j < (pq_fl σ.2.2.1 μ.1 μ.2.1 k a).length) (hset : pq_fl (pq_u σ.2.2.1 f a (some q)) μ.1 μ.2.1 k a = (pq_fl σ.2.2.1 μ.1 μ.2.1 k a).set j (.ref q)) (hdg : decode cc pc = .ok (.putfield index, 3))
    (kk : ∀ (σ1 : pq_S) (H1 : Heap) (locs1 : List Loc), Ps f a q σ σ1 → va_P D vwCl (pq_P t σ1 μ) H1 → va_D A (pq_P t σ1 μ) → va_S A H0 H1 locs1 → W p l e R s m args below meth c H1 locs1 cells slots Q (F0 m (pc + 3) ls rest)) : W p l e R s m args below meth c H locs cells slots Q (F0 m pc ls (.ref q :: .ref a :: rest)) := by
  obtain ⟨qq, hq⟩ := pq_in (t := t) (μ := μ) hL
  have hq2 := hq
  rw [pq_o h13 hk] at hq2
  have hsame : ∀ x, s.fieldFound? (T j).1 (T j).2.1 (T j).2.2.1 = some x → s.fieldFound? (T j).1 (T j).2.1 (T j).2.2.1 = some x := fun _ h => h
  have he : (pq_P t σ μ).set qq (a, .inr (k, (pq_fl σ.2.2.1 μ.1 μ.2.1 k a).set j (.ref q))) = pq_P t (σ.1, σ.2.1, pq_u σ.2.2.1 f a (some q), σ.2.2.2) μ := by
    have h3 := va_pl_set (X := []) (e := (.inr (k, (pq_fl σ.2.2.1 μ.1 μ.2.1 k a).set j (.ref q)) : va_E)) hD hL hq
    refine h3.trans ?_
    show va_pl _ _ = va_pl _ _
    refine va_pl_congr (fun b => ?_)
    by_cases hb : b = a
    · subst hb
      rw [va_up_self, pq_o h13 (by exact hk)]
      exact congrArg _ (congrArg _ hset.symm)
    · rw [va_up_ne _ _ hb]
      exact (pq_ER hb).symm
  refine va_putF hx hb hts hin ty0 hty hnm hown hK hP hD hS qq hq2 hc j hj hlink hsame hfin hin2 hdecl hd hn hfit hl hdg (fun H1 locs1 hP1 hD1 hS1 => ?_)
  exact kk _ H1 locs1 rfl (he ▸ hP1) (he ▸ hD1) hS1
theorem pr_N (hx : p.tables.exec = Jvm.exec) (hb : c.code = cc) {own C : String} {T : u_T} {N k index : Nat} {Ts : List Cond} {μ : pq_M} (hts : ∀ w ∈ Ts, w.before args s = true) (hin : ∀ w ∈ u_ws C T N, w ∈ Ts) (ty0 : Nat → FieldType) (hty : ∀ k, k < N → parseFieldDescriptor (T k).2.2.1 = some (ty0 k)) (hnm : ∀ a, a < N → ∀ b, b < N → a ≠ b → (T a).2.1 ≠ (T b).2.1) (hown : s.vm.findClass own = some m.cls) (hK : va_K D vwCl (pq_ty t) s) (hP : va_P D vwCl (pq_P t σ μ) H) (hD : va_D A (pq_P t σ μ)) (hS : va_S A H0 H locs) (hL : a ∈ σ.1) (hk : σ.2.1 a = k) (h13 : k < 13) (hc : vwCl[k]? = some (C, T, N)) (j f : Nat) (hj : j < N) (hlink : (Cond.fieldLink own index (T j).1 (T j).2.1 (T j).2.2.1).before args s = true) (hfin : (T j).2.2.2 = false) {ty : FieldType} {q : Nat} (hd : parseFieldDescriptor (T j).2.2.1 = some ty) (hn : narrow ty (.ref q) = .ref q) (hfit : fits ty (.ref q) = true) (hl : j < (pq_fl σ.2.2.1 μ.1 μ.2.1 k a).length) (hset : pq_fl (pq_u σ.2.2.1 f a (some q)) μ.1 μ.2.1 k a = (pq_fl σ.2.2.1 μ.1 μ.2.1 k a).set j (.ref q)) (hdg : decode cc pc = .ok (.putfield index, 3))
    (kk : ∀ (σ1 : pq_S) (H1 : Heap) (locs1 : List Loc), Ps f a q σ σ1 → va_P D vwCl (pq_P t σ1 μ) H1 → va_D A (pq_P t σ1 μ) → va_S A H0 H1 locs1 → W p l e R s m args below meth c H1 locs1 cells slots Q (F0 m (pc + 3) ls rest)) : W p l e R s m args below meth c H locs cells slots Q (F0 m pc ls (.ref q :: .ref a :: rest)) := by
  obtain ⟨qq, hq⟩ := pq_in (t := t) (μ := μ) hL
  have hq2 := hq
  rw [pq_o h13 hk] at hq2
  have hsame : ∀ x, s.fieldFound? (T j).1 (T j).2.1 (T j).2.2.1 = some x → s.fieldFound? (T j).1 (T j).2.1 (T j).2.2.1 = some x := fun _ h => h
  have he : (pq_P t σ μ).set qq (a, .inr (k, (pq_fl σ.2.2.1 μ.1 μ.2.1 k a).set j (.ref q))) = pq_P t (σ.1, σ.2.1, pq_u σ.2.2.1 f a (some q), σ.2.2.2) μ := by
    have h3 := va_pl_set (X := []) (e := (.inr (k, (pq_fl σ.2.2.1 μ.1 μ.2.1 k a).set j (.ref q)) : va_E)) hD hL hq
    refine h3.trans ?_
    show va_pl _ _ = va_pl _ _
    refine va_pl_congr (fun b => ?_)
    by_cases hb : b = a
    · subst hb
      rw [va_up_self, pq_o h13 (by exact hk)]
      exact congrArg _ (congrArg _ hset.symm)
    · rw [va_up_ne _ _ hb]
      exact (pq_ER hb).symm
  refine va_put hx hb hts hin ty0 hty hnm hown hK hP hD hS qq hq2 hc j hj hlink hsame hfin hd hn hfit hl hdg (fun H1 locs1 hP1 hD1 hS1 => ?_)
  exact kk _ H1 locs1 rfl (he ▸ hP1) (he ▸ hD1) hS1
/-- a new object -/
theorem nw_o (hx : p.tables.exec = Jvm.exec) (hb : c.code = cc) {own C : String} {T : u_T} {N k index : Nat} {Ts : List Cond} (hts : ∀ w ∈ Ts, w.before args s = true) (hin : ∀ w ∈ u_ws C T N, w ∈ Ts) (ty : Nat → FieldType) (hty : ∀ k, k < N → parseFieldDescriptor (T k).2.2.1 = some (ty k)) (hown : s.vm.findClass own = some m.cls) (hcl : (Cond.classLink own index C).before args s = true) (hinst : (Cond.instantiable C N).before args s = true) (hini : (Cond.initialized C).before args s = true)
    (hK : va_K D vwCl (pq_ty t) s) (hP : va_P D vwCl (pq_P t σ (I, J, ri, rj, rq)) H) (hD : va_D A (pq_P t σ (I, J, ri, rj, rq))) (hS : va_S A H0 H locs) (hA : ∀ q, H0.size ≤ q → A q) (h13 : k < 13) (hc : vwCl[k]? = some (C, T, N)) (hfs : ∀ j, j < N → defaultValue (ty j) = vp_V (pq_nf k) j) (hcells : cells + 1 ≤ R.cells) (hslots : slots + N ≤ R.slots) (hdg : decode cc pc = .ok (.new index, 3))
    (kk : ∀ (q : Nat) (σ1 : pq_S) (I1 : Nat → Nat → Int32) (J1 : Nat → Nat → Int64) (H1 : Heap) (locs1 : List Loc), Ns q k σ σ1 I I1 → va_P D vwCl (pq_P t σ1 (I1, J1, ri, rj, rq)) H1 → va_D A (pq_P t σ1 (I1, J1, ri, rj, rq)) → va_S A H0 H1 locs1 →
      W p l e R s m args below meth c H1 locs1 (cells + 1) (slots + N) Q (F0 m (pc + 3) ls (.ref q :: rest))) : W p l e R s m args below meth c H locs cells slots Q (F0 m pc ls rest) := by
  refine va_new hx hb hts hin ty hty hown hcl hinst hini hK hP hD hS hA hc hfs hcells hslots hdg (fun q H1 hP1 hD1 hS1 => ?_)
  have hq : q ∉ σ.1 := va_pl_fresh2 (X := []) hD1
  have he := pq_no (t := t) (σ := σ) (I := I) (J := J) (r := (ri, rj, rq)) h13 hq
  exact kk q _ _ _ H1 locs ⟨hq, rfl, rfl⟩ (he ▸ hP1) (he ▸ hD1) hS1
theorem nw_i (hx : p.tables.exec = Jvm.exec) (hb : c.code = cc) (harr : (Cond.arrayClass (newarray.typeOf .int)).before args s = true) (hK : va_K D vwCl (pq_ty t) s) (hP : va_P D vwCl (pq_P t σ (I, J, ri, rj, rq)) H) (hD : va_D A (pq_P t σ (I, J, ri, rj, rq))) (hS : va_S A H0 H locs) (hA : ∀ q, H0.size ≤ q → A q)
    {n : Int32} {N' : Nat} (hn : ¬ n < 0) (hN : n.toNatClampNeg = N') (hbytes : N' * componentBytes .int ≤ 536870912) (hcells : cells + 1 ≤ R.cells) (hslots : slots + N' ≤ R.slots) (hdg : decode cc pc = .ok (.newarray .int, 2))
    (kk : ∀ (q : Nat) (r1 : Nat → Nat → Int32) (H1 : Heap), q ∉ σ.1 → r1 = va_up ri q (fun _ => 0) → va_P D vwCl (pq_P t (σ.1 ++ [q], va_up σ.2.1 q 13, σ.2.2.1, va_up σ.2.2.2 q N') (I, J, r1, rj, rq)) H1 → va_D A (pq_P t (σ.1 ++ [q], va_up σ.2.1 q 13, σ.2.2.1, va_up σ.2.2.2 q N') (I, J, r1, rj, rq)) → va_S A H0 H1 locs →
      W p l e R s m args below meth c H1 locs (cells + 1) (slots + N') Q (F0 m (pc + 2) ls (.ref q :: rest))) : W p l e R s m args below meth c H locs cells slots Q (F0 m pc ls (.int n :: rest)) := by
  refine va_newa (ty := .int) (a0 := (N', .inl (fun _ => 0))) hx hb harr rfl hK hP hD hS hA (fun _ => rfl) hn hN hbytes hcells hslots hdg (fun q cA H1 hK1 hP1 hD1 hS1 => ?_)
  have hcA : cA = t.1 := pq_cu (i := 0) hK rfl hK1
  subst hcA
  have hq : q ∉ σ.1 := va_pl_fresh2 (X := []) hD1
  have he := pq_ni (t := t) (σ := σ) (I := I) (J := J) (ri := ri) (r := (rj, rq)) (n := N') hq
  exact kk q _ H1 hq rfl (he ▸ hP1) (he ▸ hD1) hS1
theorem nw_z (hx : p.tables.exec = Jvm.exec) (hb : c.code = cc) (harr : (Cond.arrayClass (newarray.typeOf .boolean)).before args s = true) (hK : va_K D vwCl (pq_ty t) s) (hP : va_P D vwCl (pq_P t σ (I, J, ri, rj, rq)) H) (hD : va_D A (pq_P t σ (I, J, ri, rj, rq))) (hS : va_S A H0 H locs) (hA : ∀ q, H0.size ≤ q → A q)
    {n : Int32} {N' : Nat} (hn : ¬ n < 0) (hN : n.toNatClampNeg = N') (hbytes : N' * componentBytes .boolean ≤ 536870912) (hcells : cells + 1 ≤ R.cells) (hslots : slots + N' ≤ R.slots) (hdg : decode cc pc = .ok (.newarray .boolean, 2))
    (kk : ∀ (q : Nat) (r1 : Nat → Nat → Int32) (H1 : Heap), q ∉ σ.1 → r1 = va_up ri q (fun _ => 0) → va_P D vwCl (pq_P t (σ.1 ++ [q], va_up σ.2.1 q 15, σ.2.2.1, va_up σ.2.2.2 q N') (I, J, r1, rj, rq)) H1 → va_D A (pq_P t (σ.1 ++ [q], va_up σ.2.1 q 15, σ.2.2.1, va_up σ.2.2.2 q N') (I, J, r1, rj, rq)) → va_S A H0 H1 locs →
      W p l e R s m args below meth c H1 locs (cells + 1) (slots + N') Q (F0 m (pc + 2) ls (.ref q :: rest))) : W p l e R s m args below meth c H locs cells slots Q (F0 m pc ls (.int n :: rest)) := by
  refine va_newa (ty := .boolean) (a0 := (N', .inl (fun _ => 0))) hx hb harr rfl hK hP hD hS hA (fun _ => rfl) hn hN hbytes hcells hslots hdg (fun q cA H1 hK1 hP1 hD1 hS1 => ?_)
  have hcA : cA = t.2.2.1 := pq_cu (i := 2) hK rfl hK1
  subst hcA
  have hq : q ∉ σ.1 := va_pl_fresh2 (X := []) hD1
  have he := pq_nz (t := t) (σ := σ) (I := I) (J := J) (ri := ri) (r := (rj, rq)) (n := N') hq
  exact kk q _ H1 hq rfl (he ▸ hP1) (he ▸ hD1) hS1
theorem nw_l (hx : p.tables.exec = Jvm.exec) (hb : c.code = cc) (harr : (Cond.arrayClass (newarray.typeOf .long)).before args s = true) (hK : va_K D vwCl (pq_ty t) s) (hP : va_P D vwCl (pq_P t σ (I, J, ri, rj, rq)) H) (hD : va_D A (pq_P t σ (I, J, ri, rj, rq))) (hS : va_S A H0 H locs) (hA : ∀ q, H0.size ≤ q → A q)
    {n : Int32} {N' : Nat} (hn : ¬ n < 0) (hN : n.toNatClampNeg = N') (hbytes : N' * componentBytes .long ≤ 536870912) (hcells : cells + 1 ≤ R.cells) (hslots : slots + N' ≤ R.slots) (hdg : decode cc pc = .ok (.newarray .long, 2))
    (kk : ∀ (q : Nat) (r1 : Nat → Nat → Int64) (H1 : Heap), q ∉ σ.1 → r1 = va_up rj q (fun _ => 0) → va_P D vwCl (pq_P t (σ.1 ++ [q], va_up σ.2.1 q 14, σ.2.2.1, va_up σ.2.2.2 q N') (I, J, ri, r1, rq)) H1 → va_D A (pq_P t (σ.1 ++ [q], va_up σ.2.1 q 14, σ.2.2.1, va_up σ.2.2.2 q N') (I, J, ri, r1, rq)) → va_S A H0 H1 locs →
      W p l e R s m args below meth c H1 locs (cells + 1) (slots + N') Q (F0 m (pc + 2) ls (.ref q :: rest))) : W p l e R s m args below meth c H locs cells slots Q (F0 m pc ls (.int n :: rest)) := by
  refine va_newa (ty := .long) (a0 := (N', .inr (.inl (fun _ => 0)))) hx hb harr rfl hK hP hD hS hA (fun _ => rfl) hn hN hbytes hcells hslots hdg (fun q cA H1 hK1 hP1 hD1 hS1 => ?_)
  have hcA : cA = t.2.1 := pq_cu (i := 1) hK rfl hK1
  subst hcA
  have hq : q ∉ σ.1 := va_pl_fresh2 (X := []) hD1
  have he := pq_nl2 (t := t) (σ := σ) (I := I) (J := J) (ri := ri) (rj := rj) (rq := rq) (n := N') hq
  exact kk q _ H1 hq rfl (he ▸ hP1) (he ▸ hD1) hS1
theorem nw_q (hx : p.tables.exec = Jvm.exec) (hb : c.code = cc) {own : String} {index : Nat} (hown : s.vm.findClass own = some m.cls) (hclink : (Cond.classLink own index "RingsUnder$Text").before args s = true) (hover : va_AO "RingsUnder$Text" s) (hK : va_K D vwCl (pq_ty t) s) (hP : va_P D vwCl (pq_P t σ (I, J, ri, rj, rq)) H) (hD : va_D A (pq_P t σ (I, J, ri, rj, rq))) (hS : va_S A H0 H locs) (hA : ∀ q, H0.size ≤ q → A q)
    {n : Int32} {N' : Nat} (hn : ¬ n < 0) (hN : n.toNatClampNeg = N') (hbytes : N' * 4 ≤ 536870912) (hcells : cells + 1 ≤ R.cells) (hslots : slots + N' ≤ R.slots) (hdg : decode cc pc = .ok (.anewarray index, 3))
    (kk : ∀ (q : Nat) (r1 : Nat → Nat → Option Nat) (H1 : Heap), q ∉ σ.1 → r1 = va_up rq q (fun _ => none) → va_P D vwCl (pq_P t (σ.1 ++ [q], va_up σ.2.1 q 16, σ.2.2.1, va_up σ.2.2.2 q N') (I, J, ri, rj, r1)) H1 → va_D A (pq_P t (σ.1 ++ [q], va_up σ.2.1 q 16, σ.2.2.1, va_up σ.2.2.2 q N') (I, J, ri, rj, r1)) → va_S A H0 H1 locs →
      W p l e R s m args below meth c H1 locs (cells + 1) (slots + N') Q (F0 m (pc + 3) ls (.ref q :: rest))) : W p l e R s m args below meth c H locs cells slots Q (F0 m pc ls (.int n :: rest)) := by
  refine va_newq hx hb hown hclink hover hK hP hD hS hA hn hN hbytes hcells hslots hdg (fun q cA H1 hK1 hP1 hD1 hS1 => ?_)
  have hcA : cA = t.2.2.2 := pq_cu (i := 3) hK rfl hK1
  subst hcA
  have hq : q ∉ σ.1 := va_pl_fresh2 (X := []) hD1
  have he := pq_nq (t := t) (σ := σ) (I := I) (J := J) (ri := ri) (rj := rj) (rq := rq) (n := N') hq
  exact kk q _ H1 hq rfl (he ▸ hP1) (he ▸ hD1) hS1
theorem As_of {f a q k n : Nat} {σ σ1 : pq_S} (hq : q ∉ σ.1) (h : Ps f a q (σ.1 ++ [q], va_up σ.2.1 q k, σ.2.2.1, va_up σ.2.2.2 q n) σ1) : As f a q k n σ σ1 := ⟨hq, h⟩
theorem As_in {q k n : Nat} {σ : pq_S} {b : Nat} (hb : b ∈ σ.1) : b ∈ (σ.1 ++ [q], va_up σ.2.1 q k, σ.2.2.1, va_up σ.2.2.2 q n).1 := List.mem_append_left _ hb
theorem As_kk {q k n : Nat} {σ : pq_S} {b j : Nat} (hq : q ∉ σ.1) (hb : b ∈ σ.1) (hk : σ.2.1 b = j) : (σ.1 ++ [q], va_up σ.2.1 q k, σ.2.2.1, va_up σ.2.2.2 q n).2.1 b = j := (va_up_ne _ _ (fun (z : b = q) => hq (z ▸ hb))).trans hk
end PQE
theorem nf_9 : ∀ j, j < 3 → defaultValue (tyX9 j) = vp_V (pq_nf 9) j := by
  intro j hj
  have h : j = 0 ∨ j = 1 ∨ j = 2 := by omega
  rcases h with h | h | h <;> subst h <;> rfl
theorem nf_2 : ∀ j, j < 20 → defaultValue (tyX2 j) = vp_V (pq_nf 2) j := by
  intro j hj
  have h : j = 0 ∨ j = 1 ∨ j = 2 ∨ j = 3 ∨ j = 4 ∨ j = 5 ∨ j = 6 ∨ j = 7 ∨ j = 8 ∨ j = 9 ∨ j = 10 ∨ j = 11 ∨ j = 12 ∨ j = 13 ∨ j = 14 ∨ j = 15 ∨ j = 16 ∨ j = 17 ∨ j = 18 ∨ j = 19 := by omega
  rcases h with h | h | h | h | h | h | h | h | h | h | h | h | h | h | h | h | h | h | h | h <;> subst h <;> rfl
theorem nf_7 : ∀ j, j < 15 → defaultValue (tyX7 j) = vp_V (pq_nf 7) j := by
  intro j hj
  have h : j = 0 ∨ j = 1 ∨ j = 2 ∨ j = 3 ∨ j = 4 ∨ j = 5 ∨ j = 6 ∨ j = 7 ∨ j = 8 ∨ j = 9 ∨ j = 10 ∨ j = 11 ∨ j = 12 ∨ j = 13 ∨ j = 14 := by omega
  rcases h with h | h | h | h | h | h | h | h | h | h | h | h | h | h | h <;> subst h <;> rfl
theorem nf_0 : ∀ j, j < 16 → defaultValue (tyX0 j) = vp_V (pq_nf 0) j := by
  intro j hj
  have h : j = 0 ∨ j = 1 ∨ j = 2 ∨ j = 3 ∨ j = 4 ∨ j = 5 ∨ j = 6 ∨ j = 7 ∨ j = 8 ∨ j = 9 ∨ j = 10 ∨ j = 11 ∨ j = 12 ∨ j = 13 ∨ j = 14 ∨ j = 15 := by omega
  rcases h with h | h | h | h | h | h | h | h | h | h | h | h | h | h | h | h <;> subst h <;> rfl
theorem nf_3 : ∀ j, j < 8 → defaultValue (tyX3 j) = vp_V (pq_nf 3) j := by
  intro j hj
  have h : j = 0 ∨ j = 1 ∨ j = 2 ∨ j = 3 ∨ j = 4 ∨ j = 5 ∨ j = 6 ∨ j = 7 := by omega
  rcases h with h | h | h | h | h | h | h | h <;> subst h <;> rfl
theorem nf_1 : ∀ j, j < 3 → defaultValue (tyX1 j) = vp_V (pq_nf 1) j := by
  intro j hj
  have h : j = 0 ∨ j = 1 ∨ j = 2 := by omega
  rcases h with h | h | h <;> subst h <;> rfl
theorem nf_10 : ∀ j, j < 13 → defaultValue (tyX10 j) = vp_V (pq_nf 10) j := by
  intro j hj
  have h : j = 0 ∨ j = 1 ∨ j = 2 ∨ j = 3 ∨ j = 4 ∨ j = 5 ∨ j = 6 ∨ j = 7 ∨ j = 8 ∨ j = 9 ∨ j = 10 ∨ j = 11 ∨ j = 12 := by omega
  rcases h with h | h | h | h | h | h | h | h | h | h | h | h | h <;> subst h <;> rfl
theorem nf_5 : ∀ j, j < 8 → defaultValue (tyX5 j) = vp_V (pq_nf 5) j := by
  intro j hj
  have h : j = 0 ∨ j = 1 ∨ j = 2 ∨ j = 3 ∨ j = 4 ∨ j = 5 ∨ j = 6 ∨ j = 7 := by omega
  rcases h with h | h | h | h | h | h | h | h <;> subst h <;> rfl
theorem nf_6 : ∀ j, j < 6 → defaultValue (tyX6 j) = vp_V (pq_nf 6) j := by
  intro j hj
  have h : j = 0 ∨ j = 1 ∨ j = 2 ∨ j = 3 ∨ j = 4 ∨ j = 5 := by omega
  rcases h with h | h | h | h | h | h <;> subst h <;> rfl
theorem nf_8 : ∀ j, j < 4 → defaultValue (tyX8 j) = vp_V (pq_nf 8) j := by
  intro j hj
  have h : j = 0 ∨ j = 1 ∨ j = 2 ∨ j = 3 := by omega
  rcases h with h | h | h | h <;> subst h <;> rfl
theorem nf_4 : ∀ j, j < 12 → defaultValue (tyX4 j) = vp_V (pq_nf 4) j := by
  intro j hj
  have h : j = 0 ∨ j = 1 ∨ j = 2 ∨ j = 3 ∨ j = 4 ∨ j = 5 ∨ j = 6 ∨ j = 7 ∨ j = 8 ∨ j = 9 ∨ j = 10 ∨ j = 11 := by omega
  rcases h with h | h | h | h | h | h | h | h | h | h | h | h <;> subst h <;> rfl
theorem nf_11 : ∀ j, j < 5 → defaultValue (tyX11 j) = vp_V (pq_nf 11) j := by
  intro j hj
  have h : j = 0 ∨ j = 1 ∨ j = 2 ∨ j = 3 ∨ j = 4 := by omega
  rcases h with h | h | h | h | h <;> subst h <;> rfl
theorem nf_12 : ∀ j, j < 31 → defaultValue (tyX12 j) = vp_V (pq_nf 12) j := by
  intro j hj
  have h : j = 0 ∨ j = 1 ∨ j = 2 ∨ j = 3 ∨ j = 4 ∨ j = 5 ∨ j = 6 ∨ j = 7 ∨ j = 8 ∨ j = 9 ∨ j = 10 ∨ j = 11 ∨ j = 12 ∨ j = 13 ∨ j = 14 ∨ j = 15 ∨ j = 16 ∨ j = 17 ∨ j = 18 ∨ j = 19 ∨ j = 20 ∨ j = 21 ∨ j = 22 ∨ j = 23 ∨ j = 24 ∨ j = 25 ∨ j = 26 ∨ j = 27 ∨ j = 28 ∨ j = 29 ∨ j = 30 := by omega
  rcases h with h | h | h | h | h | h | h | h | h | h | h | h | h | h | h | h | h | h | h | h | h | h | h | h | h | h | h | h | h | h | h <;> subst h <;> rfl
theorem pr_1 (R : Nat → Nat → Option Nat) (I : Nat → Nat → Int32) (J : Nat → Nat → Int64) (a q : Nat) : pq_fl (pq_u R 1 a (some q)) I J 0 a = (pq_fl R I J 0 a).set 1 (.ref q) := by simp [pq_fl, pq_u, va_up, va_rf]
theorem pr_2 (R : Nat → Nat → Option Nat) (I : Nat → Nat → Int32) (J : Nat → Nat → Int64) (a q : Nat) : pq_fl (pq_u R 2 a (some q)) I J 0 a = (pq_fl R I J 0 a).set 2 (.ref q) := by simp [pq_fl, pq_u, va_up, va_rf]
theorem pr_3 (R : Nat → Nat → Option Nat) (I : Nat → Nat → Int32) (J : Nat → Nat → Int64) (a q : Nat) : pq_fl (pq_u R 3 a (some q)) I J 0 a = (pq_fl R I J 0 a).set 3 (.ref q) := by simp [pq_fl, pq_u, va_up, va_rf]
theorem pr_4 (R : Nat → Nat → Option Nat) (I : Nat → Nat → Int32) (J : Nat → Nat → Int64) (a q : Nat) : pq_fl (pq_u R 4 a (some q)) I J 0 a = (pq_fl R I J 0 a).set 4 (.ref q) := by simp [pq_fl, pq_u, va_up, va_rf]
theorem pr_5 (R : Nat → Nat → Option Nat) (I : Nat → Nat → Int32) (J : Nat → Nat → Int64) (a q : Nat) : pq_fl (pq_u R 5 a (some q)) I J 0 a = (pq_fl R I J 0 a).set 5 (.ref q) := by simp [pq_fl, pq_u, va_up, va_rf]
theorem pr_6 (R : Nat → Nat → Option Nat) (I : Nat → Nat → Int32) (J : Nat → Nat → Int64) (a q : Nat) : pq_fl (pq_u R 6 a (some q)) I J 0 a = (pq_fl R I J 0 a).set 6 (.ref q) := by simp [pq_fl, pq_u, va_up, va_rf]
theorem pr_7 (R : Nat → Nat → Option Nat) (I : Nat → Nat → Int32) (J : Nat → Nat → Int64) (a q : Nat) : pq_fl (pq_u R 7 a (some q)) I J 0 a = (pq_fl R I J 0 a).set 7 (.ref q) := by simp [pq_fl, pq_u, va_up, va_rf]
theorem pr_8 (R : Nat → Nat → Option Nat) (I : Nat → Nat → Int32) (J : Nat → Nat → Int64) (a q : Nat) : pq_fl (pq_u R 8 a (some q)) I J 0 a = (pq_fl R I J 0 a).set 8 (.ref q) := by simp [pq_fl, pq_u, va_up, va_rf]
theorem pr_9 (R : Nat → Nat → Option Nat) (I : Nat → Nat → Int32) (J : Nat → Nat → Int64) (a q : Nat) : pq_fl (pq_u R 9 a (some q)) I J 0 a = (pq_fl R I J 0 a).set 9 (.ref q) := by simp [pq_fl, pq_u, va_up, va_rf]
theorem pr_11 (R : Nat → Nat → Option Nat) (I : Nat → Nat → Int32) (J : Nat → Nat → Int64) (a q : Nat) : pq_fl (pq_u R 11 a (some q)) I J 0 a = (pq_fl R I J 0 a).set 11 (.ref q) := by simp [pq_fl, pq_u, va_up, va_rf]
theorem pr_12 (R : Nat → Nat → Option Nat) (I : Nat → Nat → Int32) (J : Nat → Nat → Int64) (a q : Nat) : pq_fl (pq_u R 12 a (some q)) I J 0 a = (pq_fl R I J 0 a).set 12 (.ref q) := by simp [pq_fl, pq_u, va_up, va_rf]
theorem pr_13 (R : Nat → Nat → Option Nat) (I : Nat → Nat → Int32) (J : Nat → Nat → Int64) (a q : Nat) : pq_fl (pq_u R 13 a (some q)) I J 0 a = (pq_fl R I J 0 a).set 13 (.ref q) := by simp [pq_fl, pq_u, va_up, va_rf]
theorem pr_14 (R : Nat → Nat → Option Nat) (I : Nat → Nat → Int32) (J : Nat → Nat → Int64) (a q : Nat) : pq_fl (pq_u R 14 a (some q)) I J 0 a = (pq_fl R I J 0 a).set 14 (.ref q) := by simp [pq_fl, pq_u, va_up, va_rf]
theorem pr_15 (R : Nat → Nat → Option Nat) (I : Nat → Nat → Int32) (J : Nat → Nat → Int64) (a q : Nat) : pq_fl (pq_u R 15 a (some q)) I J 0 a = (pq_fl R I J 0 a).set 15 (.ref q) := by simp [pq_fl, pq_u, va_up, va_rf]
theorem pr_33 (R : Nat → Nat → Option Nat) (I : Nat → Nat → Int32) (J : Nat → Nat → Int64) (a q : Nat) : pq_fl (pq_u R 33 a (some q)) I J 1 a = (pq_fl R I J 1 a).set 1 (.ref q) := by simp [pq_fl, pq_u, va_up, va_rf]
theorem pr_34 (R : Nat → Nat → Option Nat) (I : Nat → Nat → Int32) (J : Nat → Nat → Int64) (a q : Nat) : pq_fl (pq_u R 34 a (some q)) I J 1 a = (pq_fl R I J 1 a).set 2 (.ref q) := by simp [pq_fl, pq_u, va_up, va_rf]
theorem pr_68 (R : Nat → Nat → Option Nat) (I : Nat → Nat → Int32) (J : Nat → Nat → Int64) (a q : Nat) : pq_fl (pq_u R 68 a (some q)) I J 2 a = (pq_fl R I J 2 a).set 4 (.ref q) := by simp [pq_fl, pq_u, va_up, va_rf]
theorem pr_69 (R : Nat → Nat → Option Nat) (I : Nat → Nat → Int32) (J : Nat → Nat → Int64) (a q : Nat) : pq_fl (pq_u R 69 a (some q)) I J 2 a = (pq_fl R I J 2 a).set 5 (.ref q) := by simp [pq_fl, pq_u, va_up, va_rf]
theorem pr_70 (R : Nat → Nat → Option Nat) (I : Nat → Nat → Int32) (J : Nat → Nat → Int64) (a q : Nat) : pq_fl (pq_u R 70 a (some q)) I J 2 a = (pq_fl R I J 2 a).set 6 (.ref q) := by simp [pq_fl, pq_u, va_up, va_rf]
theorem pr_71 (R : Nat → Nat → Option Nat) (I : Nat → Nat → Int32) (J : Nat → Nat → Int64) (a q : Nat) : pq_fl (pq_u R 71 a (some q)) I J 2 a = (pq_fl R I J 2 a).set 7 (.ref q) := by simp [pq_fl, pq_u, va_up, va_rf]
theorem pr_72 (R : Nat → Nat → Option Nat) (I : Nat → Nat → Int32) (J : Nat → Nat → Int64) (a q : Nat) : pq_fl (pq_u R 72 a (some q)) I J 2 a = (pq_fl R I J 2 a).set 8 (.ref q) := by simp [pq_fl, pq_u, va_up, va_rf]
theorem pr_73 (R : Nat → Nat → Option Nat) (I : Nat → Nat → Int32) (J : Nat → Nat → Int64) (a q : Nat) : pq_fl (pq_u R 73 a (some q)) I J 2 a = (pq_fl R I J 2 a).set 9 (.ref q) := by simp [pq_fl, pq_u, va_up, va_rf]
theorem pr_74 (R : Nat → Nat → Option Nat) (I : Nat → Nat → Int32) (J : Nat → Nat → Int64) (a q : Nat) : pq_fl (pq_u R 74 a (some q)) I J 2 a = (pq_fl R I J 2 a).set 10 (.ref q) := by simp [pq_fl, pq_u, va_up, va_rf]
theorem pr_75 (R : Nat → Nat → Option Nat) (I : Nat → Nat → Int32) (J : Nat → Nat → Int64) (a q : Nat) : pq_fl (pq_u R 75 a (some q)) I J 2 a = (pq_fl R I J 2 a).set 11 (.ref q) := by simp [pq_fl, pq_u, va_up, va_rf]
theorem pr_76 (R : Nat → Nat → Option Nat) (I : Nat → Nat → Int32) (J : Nat → Nat → Int64) (a q : Nat) : pq_fl (pq_u R 76 a (some q)) I J 2 a = (pq_fl R I J 2 a).set 12 (.ref q) := by simp [pq_fl, pq_u, va_up, va_rf]
theorem pr_77 (R : Nat → Nat → Option Nat) (I : Nat → Nat → Int32) (J : Nat → Nat → Int64) (a q : Nat) : pq_fl (pq_u R 77 a (some q)) I J 2 a = (pq_fl R I J 2 a).set 13 (.ref q) := by simp [pq_fl, pq_u, va_up, va_rf]
theorem pr_78 (R : Nat → Nat → Option Nat) (I : Nat → Nat → Int32) (J : Nat → Nat → Int64) (a q : Nat) : pq_fl (pq_u R 78 a (some q)) I J 2 a = (pq_fl R I J 2 a).set 14 (.ref q) := by simp [pq_fl, pq_u, va_up, va_rf]
theorem pr_79 (R : Nat → Nat → Option Nat) (I : Nat → Nat → Int32) (J : Nat → Nat → Int64) (a q : Nat) : pq_fl (pq_u R 79 a (some q)) I J 2 a = (pq_fl R I J 2 a).set 15 (.ref q) := by simp [pq_fl, pq_u, va_up, va_rf]
theorem pr_80 (R : Nat → Nat → Option Nat) (I : Nat → Nat → Int32) (J : Nat → Nat → Int64) (a q : Nat) : pq_fl (pq_u R 80 a (some q)) I J 2 a = (pq_fl R I J 2 a).set 16 (.ref q) := by simp [pq_fl, pq_u, va_up, va_rf]
theorem pr_81 (R : Nat → Nat → Option Nat) (I : Nat → Nat → Int32) (J : Nat → Nat → Int64) (a q : Nat) : pq_fl (pq_u R 81 a (some q)) I J 2 a = (pq_fl R I J 2 a).set 17 (.ref q) := by simp [pq_fl, pq_u, va_up, va_rf]
theorem pr_82 (R : Nat → Nat → Option Nat) (I : Nat → Nat → Int32) (J : Nat → Nat → Int64) (a q : Nat) : pq_fl (pq_u R 82 a (some q)) I J 2 a = (pq_fl R I J 2 a).set 18 (.ref q) := by simp [pq_fl, pq_u, va_up, va_rf]
theorem pr_83 (R : Nat → Nat → Option Nat) (I : Nat → Nat → Int32) (J : Nat → Nat → Int64) (a q : Nat) : pq_fl (pq_u R 83 a (some q)) I J 2 a = (pq_fl R I J 2 a).set 19 (.ref q) := by simp [pq_fl, pq_u, va_up, va_rf]
theorem pr_97 (R : Nat → Nat → Option Nat) (I : Nat → Nat → Int32) (J : Nat → Nat → Int64) (a q : Nat) : pq_fl (pq_u R 97 a (some q)) I J 3 a = (pq_fl R I J 3 a).set 1 (.ref q) := by simp [pq_fl, pq_u, va_up, va_rf]
theorem pr_99 (R : Nat → Nat → Option Nat) (I : Nat → Nat → Int32) (J : Nat → Nat → Int64) (a q : Nat) : pq_fl (pq_u R 99 a (some q)) I J 3 a = (pq_fl R I J 3 a).set 3 (.ref q) := by simp [pq_fl, pq_u, va_up, va_rf]
theorem pr_100 (R : Nat → Nat → Option Nat) (I : Nat → Nat → Int32) (J : Nat → Nat → Int64) (a q : Nat) : pq_fl (pq_u R 100 a (some q)) I J 3 a = (pq_fl R I J 3 a).set 4 (.ref q) := by simp [pq_fl, pq_u, va_up, va_rf]
theorem pr_101 (R : Nat → Nat → Option Nat) (I : Nat → Nat → Int32) (J : Nat → Nat → Int64) (a q : Nat) : pq_fl (pq_u R 101 a (some q)) I J 3 a = (pq_fl R I J 3 a).set 5 (.ref q) := by simp [pq_fl, pq_u, va_up, va_rf]
theorem pr_102 (R : Nat → Nat → Option Nat) (I : Nat → Nat → Int32) (J : Nat → Nat → Int64) (a q : Nat) : pq_fl (pq_u R 102 a (some q)) I J 3 a = (pq_fl R I J 3 a).set 6 (.ref q) := by simp [pq_fl, pq_u, va_up, va_rf]
theorem pr_103 (R : Nat → Nat → Option Nat) (I : Nat → Nat → Int32) (J : Nat → Nat → Int64) (a q : Nat) : pq_fl (pq_u R 103 a (some q)) I J 3 a = (pq_fl R I J 3 a).set 7 (.ref q) := by simp [pq_fl, pq_u, va_up, va_rf]
theorem pr_128 (R : Nat → Nat → Option Nat) (I : Nat → Nat → Int32) (J : Nat → Nat → Int64) (a q : Nat) : pq_fl (pq_u R 128 a (some q)) I J 4 a = (pq_fl R I J 4 a).set 0 (.ref q) := by simp [pq_fl, pq_u, va_up, va_rf]
theorem pr_131 (R : Nat → Nat → Option Nat) (I : Nat → Nat → Int32) (J : Nat → Nat → Int64) (a q : Nat) : pq_fl (pq_u R 131 a (some q)) I J 4 a = (pq_fl R I J 4 a).set 3 (.ref q) := by simp [pq_fl, pq_u, va_up, va_rf]
theorem pr_133 (R : Nat → Nat → Option Nat) (I : Nat → Nat → Int32) (J : Nat → Nat → Int64) (a q : Nat) : pq_fl (pq_u R 133 a (some q)) I J 4 a = (pq_fl R I J 4 a).set 5 (.ref q) := by simp [pq_fl, pq_u, va_up, va_rf]
theorem pr_161 (R : Nat → Nat → Option Nat) (I : Nat → Nat → Int32) (J : Nat → Nat → Int64) (a q : Nat) : pq_fl (pq_u R 161 a (some q)) I J 5 a = (pq_fl R I J 5 a).set 1 (.ref q) := by simp [pq_fl, pq_u, va_up, va_rf]
theorem pr_162 (R : Nat → Nat → Option Nat) (I : Nat → Nat → Int32) (J : Nat → Nat → Int64) (a q : Nat) : pq_fl (pq_u R 162 a (some q)) I J 5 a = (pq_fl R I J 5 a).set 2 (.ref q) := by simp [pq_fl, pq_u, va_up, va_rf]
theorem pr_163 (R : Nat → Nat → Option Nat) (I : Nat → Nat → Int32) (J : Nat → Nat → Int64) (a q : Nat) : pq_fl (pq_u R 163 a (some q)) I J 5 a = (pq_fl R I J 5 a).set 3 (.ref q) := by simp [pq_fl, pq_u, va_up, va_rf]
theorem pr_165 (R : Nat → Nat → Option Nat) (I : Nat → Nat → Int32) (J : Nat → Nat → Int64) (a q : Nat) : pq_fl (pq_u R 165 a (some q)) I J 5 a = (pq_fl R I J 5 a).set 5 (.ref q) := by simp [pq_fl, pq_u, va_up, va_rf]
theorem pr_166 (R : Nat → Nat → Option Nat) (I : Nat → Nat → Int32) (J : Nat → Nat → Int64) (a q : Nat) : pq_fl (pq_u R 166 a (some q)) I J 5 a = (pq_fl R I J 5 a).set 6 (.ref q) := by simp [pq_fl, pq_u, va_up, va_rf]
theorem pr_167 (R : Nat → Nat → Option Nat) (I : Nat → Nat → Int32) (J : Nat → Nat → Int64) (a q : Nat) : pq_fl (pq_u R 167 a (some q)) I J 5 a = (pq_fl R I J 5 a).set 7 (.ref q) := by simp [pq_fl, pq_u, va_up, va_rf]
theorem pr_192 (R : Nat → Nat → Option Nat) (I : Nat → Nat → Int32) (J : Nat → Nat → Int64) (a q : Nat) : pq_fl (pq_u R 192 a (some q)) I J 6 a = (pq_fl R I J 6 a).set 0 (.ref q) := by simp [pq_fl, pq_u, va_up, va_rf]
theorem pr_225 (R : Nat → Nat → Option Nat) (I : Nat → Nat → Int32) (J : Nat → Nat → Int64) (a q : Nat) : pq_fl (pq_u R 225 a (some q)) I J 7 a = (pq_fl R I J 7 a).set 1 (.ref q) := by simp [pq_fl, pq_u, va_up, va_rf]
theorem pr_226 (R : Nat → Nat → Option Nat) (I : Nat → Nat → Int32) (J : Nat → Nat → Int64) (a q : Nat) : pq_fl (pq_u R 226 a (some q)) I J 7 a = (pq_fl R I J 7 a).set 2 (.ref q) := by simp [pq_fl, pq_u, va_up, va_rf]
theorem pr_227 (R : Nat → Nat → Option Nat) (I : Nat → Nat → Int32) (J : Nat → Nat → Int64) (a q : Nat) : pq_fl (pq_u R 227 a (some q)) I J 7 a = (pq_fl R I J 7 a).set 3 (.ref q) := by simp [pq_fl, pq_u, va_up, va_rf]
theorem pr_228 (R : Nat → Nat → Option Nat) (I : Nat → Nat → Int32) (J : Nat → Nat → Int64) (a q : Nat) : pq_fl (pq_u R 228 a (some q)) I J 7 a = (pq_fl R I J 7 a).set 4 (.ref q) := by simp [pq_fl, pq_u, va_up, va_rf]
theorem pr_229 (R : Nat → Nat → Option Nat) (I : Nat → Nat → Int32) (J : Nat → Nat → Int64) (a q : Nat) : pq_fl (pq_u R 229 a (some q)) I J 7 a = (pq_fl R I J 7 a).set 5 (.ref q) := by simp [pq_fl, pq_u, va_up, va_rf]
theorem pr_230 (R : Nat → Nat → Option Nat) (I : Nat → Nat → Int32) (J : Nat → Nat → Int64) (a q : Nat) : pq_fl (pq_u R 230 a (some q)) I J 7 a = (pq_fl R I J 7 a).set 6 (.ref q) := by simp [pq_fl, pq_u, va_up, va_rf]
theorem pr_231 (R : Nat → Nat → Option Nat) (I : Nat → Nat → Int32) (J : Nat → Nat → Int64) (a q : Nat) : pq_fl (pq_u R 231 a (some q)) I J 7 a = (pq_fl R I J 7 a).set 7 (.ref q) := by simp [pq_fl, pq_u, va_up, va_rf]
theorem pr_232 (R : Nat → Nat → Option Nat) (I : Nat → Nat → Int32) (J : Nat → Nat → Int64) (a q : Nat) : pq_fl (pq_u R 232 a (some q)) I J 7 a = (pq_fl R I J 7 a).set 8 (.ref q) := by simp [pq_fl, pq_u, va_up, va_rf]
theorem pr_233 (R : Nat → Nat → Option Nat) (I : Nat → Nat → Int32) (J : Nat → Nat → Int64) (a q : Nat) : pq_fl (pq_u R 233 a (some q)) I J 7 a = (pq_fl R I J 7 a).set 9 (.ref q) := by simp [pq_fl, pq_u, va_up, va_rf]
theorem pr_257 (R : Nat → Nat → Option Nat) (I : Nat → Nat → Int32) (J : Nat → Nat → Int64) (a q : Nat) : pq_fl (pq_u R 257 a (some q)) I J 8 a = (pq_fl R I J 8 a).set 1 (.ref q) := by simp [pq_fl, pq_u, va_up, va_rf]
theorem pr_258 (R : Nat → Nat → Option Nat) (I : Nat → Nat → Int32) (J : Nat → Nat → Int64) (a q : Nat) : pq_fl (pq_u R 258 a (some q)) I J 8 a = (pq_fl R I J 8 a).set 2 (.ref q) := by simp [pq_fl, pq_u, va_up, va_rf]
theorem pr_259 (R : Nat → Nat → Option Nat) (I : Nat → Nat → Int32) (J : Nat → Nat → Int64) (a q : Nat) : pq_fl (pq_u R 259 a (some q)) I J 8 a = (pq_fl R I J 8 a).set 3 (.ref q) := by simp [pq_fl, pq_u, va_up, va_rf]
theorem pr_288 (R : Nat → Nat → Option Nat) (I : Nat → Nat → Int32) (J : Nat → Nat → Int64) (a q : Nat) : pq_fl (pq_u R 288 a (some q)) I J 9 a = (pq_fl R I J 9 a).set 0 (.ref q) := by simp [pq_fl, pq_u, va_up, va_rf]
theorem pr_289 (R : Nat → Nat → Option Nat) (I : Nat → Nat → Int32) (J : Nat → Nat → Int64) (a q : Nat) : pq_fl (pq_u R 289 a (some q)) I J 9 a = (pq_fl R I J 9 a).set 1 (.ref q) := by simp [pq_fl, pq_u, va_up, va_rf]
theorem pr_290 (R : Nat → Nat → Option Nat) (I : Nat → Nat → Int32) (J : Nat → Nat → Int64) (a q : Nat) : pq_fl (pq_u R 290 a (some q)) I J 9 a = (pq_fl R I J 9 a).set 2 (.ref q) := by simp [pq_fl, pq_u, va_up, va_rf]
theorem pr_325 (R : Nat → Nat → Option Nat) (I : Nat → Nat → Int32) (J : Nat → Nat → Int64) (a q : Nat) : pq_fl (pq_u R 325 a (some q)) I J 10 a = (pq_fl R I J 10 a).set 5 (.ref q) := by simp [pq_fl, pq_u, va_up, va_rf]
theorem pr_326 (R : Nat → Nat → Option Nat) (I : Nat → Nat → Int32) (J : Nat → Nat → Int64) (a q : Nat) : pq_fl (pq_u R 326 a (some q)) I J 10 a = (pq_fl R I J 10 a).set 6 (.ref q) := by simp [pq_fl, pq_u, va_up, va_rf]
theorem pr_327 (R : Nat → Nat → Option Nat) (I : Nat → Nat → Int32) (J : Nat → Nat → Int64) (a q : Nat) : pq_fl (pq_u R 327 a (some q)) I J 10 a = (pq_fl R I J 10 a).set 7 (.ref q) := by simp [pq_fl, pq_u, va_up, va_rf]
theorem pr_328 (R : Nat → Nat → Option Nat) (I : Nat → Nat → Int32) (J : Nat → Nat → Int64) (a q : Nat) : pq_fl (pq_u R 328 a (some q)) I J 10 a = (pq_fl R I J 10 a).set 8 (.ref q) := by simp [pq_fl, pq_u, va_up, va_rf]
theorem pr_329 (R : Nat → Nat → Option Nat) (I : Nat → Nat → Int32) (J : Nat → Nat → Int64) (a q : Nat) : pq_fl (pq_u R 329 a (some q)) I J 10 a = (pq_fl R I J 10 a).set 9 (.ref q) := by simp [pq_fl, pq_u, va_up, va_rf]
theorem pr_330 (R : Nat → Nat → Option Nat) (I : Nat → Nat → Int32) (J : Nat → Nat → Int64) (a q : Nat) : pq_fl (pq_u R 330 a (some q)) I J 10 a = (pq_fl R I J 10 a).set 10 (.ref q) := by simp [pq_fl, pq_u, va_up, va_rf]
theorem pr_331 (R : Nat → Nat → Option Nat) (I : Nat → Nat → Int32) (J : Nat → Nat → Int64) (a q : Nat) : pq_fl (pq_u R 331 a (some q)) I J 10 a = (pq_fl R I J 10 a).set 11 (.ref q) := by simp [pq_fl, pq_u, va_up, va_rf]
theorem pr_332 (R : Nat → Nat → Option Nat) (I : Nat → Nat → Int32) (J : Nat → Nat → Int64) (a q : Nat) : pq_fl (pq_u R 332 a (some q)) I J 10 a = (pq_fl R I J 10 a).set 12 (.ref q) := by simp [pq_fl, pq_u, va_up, va_rf]
theorem pr_352 (R : Nat → Nat → Option Nat) (I : Nat → Nat → Int32) (J : Nat → Nat → Int64) (a q : Nat) : pq_fl (pq_u R 352 a (some q)) I J 11 a = (pq_fl R I J 11 a).set 0 (.ref q) := by simp [pq_fl, pq_u, va_up, va_rf]
theorem pr_353 (R : Nat → Nat → Option Nat) (I : Nat → Nat → Int32) (J : Nat → Nat → Int64) (a q : Nat) : pq_fl (pq_u R 353 a (some q)) I J 11 a = (pq_fl R I J 11 a).set 1 (.ref q) := by simp [pq_fl, pq_u, va_up, va_rf]
theorem pr_354 (R : Nat → Nat → Option Nat) (I : Nat → Nat → Int32) (J : Nat → Nat → Int64) (a q : Nat) : pq_fl (pq_u R 354 a (some q)) I J 11 a = (pq_fl R I J 11 a).set 2 (.ref q) := by simp [pq_fl, pq_u, va_up, va_rf]
theorem pr_355 (R : Nat → Nat → Option Nat) (I : Nat → Nat → Int32) (J : Nat → Nat → Int64) (a q : Nat) : pq_fl (pq_u R 355 a (some q)) I J 11 a = (pq_fl R I J 11 a).set 3 (.ref q) := by simp [pq_fl, pq_u, va_up, va_rf]
theorem pr_356 (R : Nat → Nat → Option Nat) (I : Nat → Nat → Int32) (J : Nat → Nat → Int64) (a q : Nat) : pq_fl (pq_u R 356 a (some q)) I J 11 a = (pq_fl R I J 11 a).set 4 (.ref q) := by simp [pq_fl, pq_u, va_up, va_rf]
theorem pr_384 (R : Nat → Nat → Option Nat) (I : Nat → Nat → Int32) (J : Nat → Nat → Int64) (a q : Nat) : pq_fl (pq_u R 384 a (some q)) I J 12 a = (pq_fl R I J 12 a).set 0 (.ref q) := by simp [pq_fl, pq_u, va_up, va_rf]
theorem pr_385 (R : Nat → Nat → Option Nat) (I : Nat → Nat → Int32) (J : Nat → Nat → Int64) (a q : Nat) : pq_fl (pq_u R 385 a (some q)) I J 12 a = (pq_fl R I J 12 a).set 1 (.ref q) := by simp [pq_fl, pq_u, va_up, va_rf]
theorem pr_386 (R : Nat → Nat → Option Nat) (I : Nat → Nat → Int32) (J : Nat → Nat → Int64) (a q : Nat) : pq_fl (pq_u R 386 a (some q)) I J 12 a = (pq_fl R I J 12 a).set 2 (.ref q) := by simp [pq_fl, pq_u, va_up, va_rf]
theorem pr_387 (R : Nat → Nat → Option Nat) (I : Nat → Nat → Int32) (J : Nat → Nat → Int64) (a q : Nat) : pq_fl (pq_u R 387 a (some q)) I J 12 a = (pq_fl R I J 12 a).set 3 (.ref q) := by simp [pq_fl, pq_u, va_up, va_rf]
theorem pr_400 (R : Nat → Nat → Option Nat) (I : Nat → Nat → Int32) (J : Nat → Nat → Int64) (a q : Nat) : pq_fl (pq_u R 400 a (some q)) I J 12 a = (pq_fl R I J 12 a).set 16 (.ref q) := by simp [pq_fl, pq_u, va_up, va_rf]
theorem pr_404 (R : Nat → Nat → Option Nat) (I : Nat → Nat → Int32) (J : Nat → Nat → Int64) (a q : Nat) : pq_fl (pq_u R 404 a (some q)) I J 12 a = (pq_fl R I J 12 a).set 20 (.ref q) := by simp [pq_fl, pq_u, va_up, va_rf]
theorem pr_405 (R : Nat → Nat → Option Nat) (I : Nat → Nat → Int32) (J : Nat → Nat → Int64) (a q : Nat) : pq_fl (pq_u R 405 a (some q)) I J 12 a = (pq_fl R I J 12 a).set 21 (.ref q) := by simp [pq_fl, pq_u, va_up, va_rf]
theorem pr_408 (R : Nat → Nat → Option Nat) (I : Nat → Nat → Int32) (J : Nat → Nat → Int64) (a q : Nat) : pq_fl (pq_u R 408 a (some q)) I J 12 a = (pq_fl R I J 12 a).set 24 (.ref q) := by simp [pq_fl, pq_u, va_up, va_rf]
theorem pr_409 (R : Nat → Nat → Option Nat) (I : Nat → Nat → Int32) (J : Nat → Nat → Int64) (a q : Nat) : pq_fl (pq_u R 409 a (some q)) I J 12 a = (pq_fl R I J 12 a).set 25 (.ref q) := by simp [pq_fl, pq_u, va_up, va_rf]
theorem pr_411 (R : Nat → Nat → Option Nat) (I : Nat → Nat → Int32) (J : Nat → Nat → Int64) (a q : Nat) : pq_fl (pq_u R 411 a (some q)) I J 12 a = (pq_fl R I J 12 a).set 27 (.ref q) := by simp [pq_fl, pq_u, va_up, va_rf]
theorem pr_412 (R : Nat → Nat → Option Nat) (I : Nat → Nat → Int32) (J : Nat → Nat → Int64) (a q : Nat) : pq_fl (pq_u R 412 a (some q)) I J 12 a = (pq_fl R I J 12 a).set 28 (.ref q) := by simp [pq_fl, pq_u, va_up, va_rf]
theorem pr_413 (R : Nat → Nat → Option Nat) (I : Nat → Nat → Int32) (J : Nat → Nat → Int64) (a q : Nat) : pq_fl (pq_u R 413 a (some q)) I J 12 a = (pq_fl R I J 12 a).set 29 (.ref q) := by simp [pq_fl, pq_u, va_up, va_rf]
theorem pr_414 (R : Nat → Nat → Option Nat) (I : Nat → Nat → Int32) (J : Nat → Nat → Int64) (a q : Nat) : pq_fl (pq_u R 414 a (some q)) I J 12 a = (pq_fl R I J 12 a).set 30 (.ref q) := by simp [pq_fl, pq_u, va_up, va_rf]
