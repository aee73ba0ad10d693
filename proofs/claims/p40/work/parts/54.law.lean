-- ===== end of PART A; then your names; then what follows =====
/-! THE CLAIM OUT OF ONE WALK OF THE LAW'S BODY. Your part is whole_start (and what it stands on); all else here is the same for every law, but numbers. -/
def R_law : String := "RingsUnderLaw"
def lw_P (b : Addr) (xs : List Int32) (args : Array Value) (s : State) : Prop := args = #[.ref b] ∧ s.IntsAt b xs ∧ xs.length ≤ 3584 ∧ (Jvm.Cond.and given_1 narrow_1).before args s = true
def lw_Q (_ : Array Value) (s : State) (o : Outcome) (t : State) : Prop := o = .returned (some (.int 1)) ∧ Framed s o t [] 600000 7302250
def lw_Z (below : List Frame) (a : Array Value) (s : State) : State → Prop := fun t => ∃ o, t.status = .running ∧ Ended t below o ∧ lw_Q a s o t
/-- the law's own end, with 1 on the stack, nothing written that was there before, its room as the claim has it -/
theorem lw_ret {p : Program} {l : Launch} {e : Env} {s : State} {m : MethodId} {below : List Frame} {meth : Method} {c : Code} {b : Nat} (hx : p.tables.exec = Jvm.exec) (hb : c.code = code) (hr : meth.sig.returnType = ret) (hlocks : meth.locks = false) {pc : Nat} {H : Heap} {ls : Array Slot} (hdg : decode code pc = .ok (.ireturn, 1)) : W p l e room_1 s m #[Value.ref b] below meth c H [] 600000 7302250 (lw_Z below #[Value.ref b] s) (F0 m pc ls [.int 1]) := by
  intro T hT X
  obtain ⟨fs, hret, hrun, hended, hW, hframe⟩ := X.leave (v := some (.int 1)) (hlocks := hlocks) (fun h => by rw [hr] at h; cases h)
  have hmeth' : T.vm.method? m = some meth := X.method'
  refine ⟨T.setFrames fs, ?_, .returned (some (.int 1)), hrun, hended, rfl, ⟨_, rfl⟩, hW, hframe⟩
  jvm_step X.here [X.here.top, hx, hb, hdg, hmeth', hr, ret, narrow_b1]
  (try refine ⟨rfl, ?_⟩); (try refine ⟨rfl, ?_⟩)
  first | (intro acts; rw [hret _ acts rfl rfl rfl]) | rw [hret _ _ rfl rfl rfl]
  exact Steps.refl _
/-- what holds at the law's entry: the machine, the code, the tables' words (any of lw_tbl by 'hts w (by decide +kernel)'), the script of L ints xs at the cell b, what the Statement gives of the start (any of its parts by flat_of_before) -/
def lw_At (p : Program) (s : State) (m : MethodId) (meth : Method) (c : Code) (b L : Nat) (xs : Nat → Int32) : Prop :=
  p.tables.exec = Jvm.exec ∧ c.code = code ∧ meth.sig.returnType = ret ∧ c.maxLocals = 4 ∧ s.vm.findClass R_law = some m.cls ∧ (∀ w ∈ lw_tbl, w.before #[Value.ref b] s = true) ∧ va_X b L xs s s.heap ∧ b < s.heap.size ∧ meth.locks = false ∧ (Jvm.Cond.and given_1 narrow_1).before #[Value.ref b] s = true
/-! ===== the law: what holds of both objects between two calls ===== -/
section LXI
variable {p : Program} {l : Launch} {e : Env} {R : Room} {s : State} {m : MethodId} {args : Array Value} {below : List Frame} {meth : Method} {c : Code} {H : Heap} {locs : List Loc} {cells slots : Nat} {Q : State → Prop}
variable {cc : ByteArray} {pc : Nat} {ls : Array Slot} {rest : List Value} {D : va_G} {A : Nat → Prop} {a : Nat} {t : pq_T} {σ τ : pq_S} {H0 : Heap}
theorem lx_i {post : Int32 → pq_S × pq_M → Prop} {st0 : List Value} {μ ν : pq_M} {mc ms : Nat} {av : Array Value} (hr : va_Run p l e R s m args below meth c H locs cells slots mc ms (F0 m pc ls st0) rest (va_Qi post (pq_Ou D t (pq_B t σ μ H.size)) (pq_B t σ μ H.size) av) (pq_B t σ μ H.size)) (hD : va_D A (pq_P t σ μ)) (hS : va_S A H0 H locs) (hA : ∀ q, H0.size ≤ q → A q) (hP2 : va_P D vwCl (pq_P t τ ν) H) (hdis : ∀ a, a ∈ τ.1 → a ∉ σ.1)
    (kk : ∀ (r : Int32) (σ1 : pq_S) (μ1 : pq_M) (H1 : Heap) (locs1 : List Loc), post r (σ1, μ1) → va_P D vwCl (pq_P t σ1 μ1) H1 → va_D A (pq_P t σ1 μ1) → va_P D vwCl (pq_P t τ ν) H1 → (∀ a, a ∈ τ.1 → a ∉ σ1.1) → va_S A H0 H1 locs1 → W p l e R s m args below meth c H1 locs1 (cells + mc) (slots + ms) Q (F0 m (pc + 3) ls (.int r :: rest))) : W p l e R s m args below meth c H locs cells slots Q (F0 m pc ls st0) := by
  have hF := pq_A (D := D) hD hS hA
  refine va_calli hr hS (fun q _ h => hF q h) hF (fun r u t1 H1 locs1 ht hvm hw hB hz hk hS1 => ?_)
  obtain ⟨hP1, -, hD1⟩ := hB
  refine kk r u.1 u.2 H1 locs1 hw (by rw [← ht]; exact hP1) (hD1.weaken (fun _ q _ h => hF q.1 h)) (pq_keep hP2 hdis hk) (fun a ha hu => ?_) hS1
  obtain ⟨k, hk2⟩ := pq_in (t := t) (μ := u.2) hu
  rcases hD1.2 k _ hk2 with ⟨_, e2, h2⟩ | h2
  · exact hdis a ha (pq_mem (q := (a, e2)) h2)
  · exact absurd (pq_lt hP2 ha) (Nat.not_lt.mpr h2)
end LXI
/-! ===== the counts of both sides ===== -/
/-- a count's field, and its place in the reference's row -/
abbrev cfi : List (Nat × Nat) := [(320, 0), (64, 1), (65, 2), (224, 3), (10, 4), (0, 5), (32, 10)]
abbrev cji : List Nat := [0, 1, 2, 3, 4, 5, 10]
theorem cfi_f {p : Nat × Nat} (h : p ∈ cfi) : p.1 ∈ cf7 := (by decide : ∀ p, p ∈ cfi → p.1 ∈ cf7) p h
theorem cfi_j {p : Nat × Nat} (h : p ∈ cfi) : p.2 ∈ cji := (by decide : ∀ p, p ∈ cfi → p.2 ∈ cji) p h
theorem cfi_1 {p q : Nat × Nat} (h : p ∈ cfi) (k : q ∈ cfi) (e : p.1 = q.1) : p = q := (by decide : ∀ p, p ∈ cfi → ∀ q, q ∈ cfi → p.1 = q.1 → p = q) p h q k e
theorem cfi_2 {p q : Nat × Nat} (h : p ∈ cfi) (k : q ∈ cfi) (e : p.2 = q.2) : p = q := (by decide : ∀ p, p ∈ cfi → ∀ q, q ∈ cfi → p.2 = q.2 → p = q) p h q k e
theorem gfo_ne (f : Nat) : gfo f ≠ 131 := by
  unfold gfo
  split
  · decide
  · split
    · decide
    · split <;> decide
/-- the three Worlds of an object, and that no two have an owner in common -/
def TRI (σ : pq_S) (this nw kp tr : Nat) : Prop := (σ.2.2.1 352 this = some nw ∧ nw ∈ σ.1 ∧ σ.2.1 nw = 10) ∧ (σ.2.2.1 353 this = some kp ∧ kp ∈ σ.1 ∧ σ.2.1 kp = 10) ∧ (σ.2.2.1 354 this = some tr ∧ tr ∈ σ.1 ∧ σ.2.1 tr = 10) ∧ ∀ f, f ∈ cf7 → own σ f nw ≠ own σ f kp ∧ own σ f nw ≠ own σ f tr ∧ own σ f kp ≠ own σ f tr
def CNS (σ : pq_S) (nw kp : Nat) (I : Nat → Nat → Int32) (f g : Nat → Int32) : Prop := ∀ p, p ∈ cfi → I p.1 (own σ p.1 nw) = f p.2 ∧ I p.1 (own σ p.1 kp) = g p.2
theorem cf7_z {x : Nat} (h : x ∈ cf7) : x ∈ cfz := (by decide : ∀ x, x ∈ cf7 → x ∈ cfz) x h
section CNT
variable {σ : pq_S} {tg : Nat → Nat} {this nw kp tr : Nat} {I I1 : Nat → Nat → Int32} {f g f1 g1 : Nat → Int32}
theorem own_ne (h : SH σ tg) (hJ : FJ σ) {w v : Nat} (hw : w ∈ σ.1) (kw : σ.2.1 w = 10) (hv : v ∈ σ.1) (kv : σ.2.1 v = 10) (hne : w ≠ v) : ∀ x, x ∈ cf7 → own σ x w ≠ own σ x v := by
  have go : ∀ (x y kd : Nat), gfo x = y → x ≠ 320 → ftp y = (10, kd, 0) → own σ x w ≠ own σ x v := fun x y kd hy hx hf e => by
    obtain ⟨a, ra, -⟩ := sh_o h y (ci := 10) (kd := kd) hf hw kw
    obtain ⟨b, rb, -⟩ := sh_o h y (ci := 10) (kd := kd) hf hv kv
    rw [own_eq hy hx ra, own_eq hy hx rb] at e
    exact hne (hJ y y w v b hw hv (by rw [kw, hf]) (by rw [kv, hf]) (by rw [ra, e]) rb).2
  refine cf7_all ?_ (go 64 327 2 rfl (by decide) rfl) (go 65 327 2 rfl (by decide) rfl) (go 224 326 7 rfl (by decide) rfl) (go 10 328 0 rfl (by decide) rfl) (go 0 328 0 rfl (by decide) rfl) (go 32 330 1 rfl (by decide) rfl)
  rw [own_320, own_320]
  exact hne
theorem own_in (h : SH σ tg) {w : Nat} (hw : w ∈ σ.1) (kw : σ.2.1 w = 10) : ∀ x, x ∈ cf7 → own σ x w ∈ σ.1 := by
  have go : ∀ (x y kd : Nat), gfo x = y → x ≠ 320 → ftp y = (10, kd, 0) → own σ x w ∈ σ.1 := fun x y kd hy hx hf => by
    obtain ⟨a, ra, ha, -⟩ := sh_o h y (ci := 10) (kd := kd) hf hw kw
    rw [own_eq hy hx ra]
    exact ha
  refine cf7_all ?_ (go 64 327 2 rfl (by decide) rfl) (go 65 327 2 rfl (by decide) rfl) (go 224 326 7 rfl (by decide) rfl) (go 10 328 0 rfl (by decide) rfl) (go 0 328 0 rfl (by decide) rfl) (go 32 330 1 rfl (by decide) rfl)
  rw [own_320]
  exact hw
theorem tri_of (h : SH σ tg) (hJ : FJ σ) (hL : this ∈ σ.1) (hK : σ.2.1 this = 11) : ∃ nw kp tr, TRI σ this nw kp tr := by
  obtain ⟨n, rn, hn, kn⟩ := sh_o h 352 (ci := 11) (kd := 10) rfl hL hK
  obtain ⟨k, rk, hk, kk⟩ := sh_o h 353 (ci := 11) (kd := 10) rfl hL hK
  obtain ⟨r, rr, hr, kr⟩ := sh_o h 354 (ci := 11) (kd := 10) rfl hL hK
  have ne : ∀ (x y a b : Nat), σ.2.2.1 x this = some a → σ.2.2.1 y this = some b → (ftp x).1 = 11 → (ftp y).1 = 11 → x ≠ y → a ≠ b := fun x y a b ha hb h1 h2 hxy e => hxy (hJ x y this this b hL hL (by rw [hK, h1]) (by rw [hK, h2]) (by rw [ha, e]) hb).1
  have n1 := ne 352 353 n k rn rk rfl rfl (by decide)
  have n2 := ne 352 354 n r rn rr rfl rfl (by decide)
  have n3 := ne 353 354 k r rk rr rfl rfl (by decide)
  exact ⟨n, k, r, ⟨rn, hn, kn⟩, ⟨rk, hk, kk⟩, ⟨rr, hr, kr⟩, fun x hx => ⟨own_ne h hJ hn kn hk kk n1 x hx, own_ne h hJ hn kn hr kr n2 x hx, own_ne h hJ hk kk hr kr n3 x hx⟩⟩
theorem cns_keep (h : CNS σ nw kp I f g) (e : ∀ x, x ∈ cf7 → I1 x = I x) (ef : ∀ j, j ∈ cji → f1 j = f j) (eg : ∀ j, j ∈ cji → g1 j = g j) : CNS σ nw kp I1 f1 g1 := fun p hp => by
  rw [e _ (cfi_f hp), ef _ (cfi_j hp), eg _ (cfi_j hp)]
  exact h p hp
theorem cns_fo (hT : TRI σ this nw kp tr) (h : CNS σ nw kp I f g) (e : FO σ tr I I1) (ef : ∀ j, j ∈ cji → f1 j = f j) (eg : ∀ j, j ∈ cji → g1 j = g j) : CNS σ nw kp I1 f1 g1 := fun p hp => by
  have d := hT.2.2.2 _ (cfi_f hp)
  rw [e _ (cfi_f hp) _ d.2.1, e _ (cfi_f hp) _ d.2.2, ef _ (cfi_j hp), eg _ (cfi_j hp)]
  exact h p hp
theorem cns_put (x i : Nat) {o : Nat} (hT : TRI σ this nw kp tr) (h : CNS σ nw kp I f g) (hxi : (x, i) ∈ cfi) (eo : ∀ y, y ∈ cf7 → y ≠ x → I1 y = I y) (hp1 : PU1 x o I I1) (ho : own σ x nw = o) (hv : I1 x o = f1 i) (ef : ∀ j, j ∈ cji → j ≠ i → f1 j = f j) (eg : ∀ j, j ∈ cji → g1 j = g j) : CNS σ nw kp I1 f1 g1 := fun p hp => by
  by_cases hx : p.1 = x
  · have e := cfi_1 hp hxi hx
    subst e
    have d := (hT.2.2.2 _ (cfi_f hp)).1
    refine ⟨by rw [ho]; exact hv, ?_⟩
    rw [eg _ (cfi_j hp), hp1 _ (fun q => d (by rw [q, ho]))]
    exact (h _ hp).2
  · have h2 : p.2 ≠ i := fun q => hx (by rw [cfi_2 hp hxi q])
    rw [eo _ (cfi_f hp) hx, ef _ (cfi_j hp) h2, eg _ (cfi_j hp)]
    exact h p hp
theorem cns_img (hT : TRI σ this nw kp tr) (h : CNS σ nw kp I f g) (e : UPC σ I I1 kp nw) (ef : ∀ j, j ∈ cji → f1 j = f j) (eg : ∀ j, j ∈ cji → g1 j = f j) : CNS σ nw kp I1 f1 g1 := fun p hp => by
  have d := (hT.2.2.2 _ (cfi_f hp)).1
  rw [e _ (cfi_f hp), va_up_ne _ _ d, va_up_self, ef _ (cfi_j hp), eg _ (cfi_j hp)]
  exact ⟨(h p hp).1, (h p hp).1⟩
theorem cns_back (hT : TRI σ this nw kp tr) (h : CNS σ nw kp I f g) (e : UPC σ I I1 nw kp) (ef : ∀ j, j ∈ cji → f1 j = g j) (eg : ∀ j, j ∈ cji → g1 j = g j) : CNS σ nw kp I1 f1 g1 := fun p hp => by
  have d := (hT.2.2.2 _ (cfi_f hp)).1
  rw [e _ (cfi_f hp), va_up_self, va_up_ne _ _ (fun q => d q.symm), ef _ (cfi_j hp), eg _ (cfi_j hp)]
  exact ⟨(h p hp).2, (h p hp).2⟩
theorem gx_cf7 {X : List Nat} {r0 ri : Nat → Nat → Int32} {j0 rj : Nat → Nat → Int64} {rq : Nat → Nat → Option Nat} (h : GX X tg σ I r0 j0 I1 ri rj rq) (hX : ∀ x, x ∈ cf7 → x ∈ cfl ∧ x ∉ X) : ∀ x, x ∈ cf7 → I1 x = I x := fun x hx => h.2.1 x (hX x hx).1 (hX x hx).2
theorem gx_cf6 {X : List Nat} {r0 ri : Nat → Nat → Int32} {j0 rj : Nat → Nat → Int64} {rq : Nat → Nat → Option Nat} {y : Nat} (h : GX X tg σ I r0 j0 I1 ri rj rq) (hX : ∀ x, x ∈ cf7 → x ≠ y → x ∈ cfl ∧ x ∉ X) : ∀ x, x ∈ cf7 → x ≠ y → I1 x = I x := fun x hx hy => h.2.1 x (hX x hx hy).1 (hX x hx hy).2
theorem gm_a {X : List Nat} {r0 r1 : Nat → Nat → Int32} {rq : Nat → Nat → Option Nat} {va : Nat} (h : GM X tg σ I r0 I1 r1 rq) (hT : tg va = 384) (hX : ∀ j, j ∈ cji → j ∈ cjl ∧ 1000 + j ∉ X) : ∀ j, j ∈ cji → r1 va j = r0 va j := fun j hj => GM.cj h hT (hX j hj).1 (hX j hj).2
theorem gm_a6 {X : List Nat} {r0 r1 : Nat → Nat → Int32} {rq : Nat → Nat → Option Nat} {va i : Nat} (h : GM X tg σ I r0 I1 r1 rq) (hT : tg va = 384) (hX : ∀ j, j ∈ cji → j ≠ i → j ∈ cjl ∧ 1000 + j ∉ X) : ∀ j, j ∈ cji → j ≠ i → r1 va j = r0 va j := fun j hj hi => GM.cj h hT (hX j hj hi).1 (hX j hj hi).2
theorem gm_i {X : List Nat} {r0 r1 : Nat → Nat → Int32} {rq : Nat → Nat → Option Nat} {vi : Nat} (h : GM X tg σ I r0 I1 r1 rq) (hT : tg vi = 385) (hX : 2000 ∉ X) : ∀ j, j ∈ cji → r1 vi j = r0 vi j := fun j _ => congrFun (h.2.2.2 385 2000 (by decide) hX vi hT) j
theorem cji_l {j : Nat} (h : j ∈ cji) : zn j ∈ ztl := (by decide : ∀ j, j ∈ cji → zn j ∈ ztl) j h
theorem cji_z {j : Nat} (h : j ∈ cji) : zn j ∈ zrl := (by decide : ∀ j, j ∈ cji → zn j ∈ zrl) j h
/-- a new text: the pool grows, the Worlds stand -/
theorem own_ex {σ1 : pq_S} {tg1 : Nat → Nat} (h : EX σ σ1 tg tg1) {w : Nat} (hw : w ∈ σ.1) (x : Nat) : own σ1 x w = own σ x w := by
  unfold own
  rw [(h w hw).2.2.2.2 _ (gfo_ne x)]
theorem tri_ex {σ1 : pq_S} {tg1 : Nat → Nat} (h : EX σ σ1 tg tg1) (hL : this ∈ σ.1) (hT : TRI σ this nw kp tr) : TRI σ1 this nw kp tr := by
  obtain ⟨⟨a1, a2, a3⟩, ⟨b1, b2, b3⟩, ⟨c1, c2, c3⟩, d⟩ := hT
  have r : ∀ x q, x ≠ 131 → σ.2.2.1 x this = some q → σ1.2.2.1 x this = some q := fun x q hx e => ((h this hL).2.2.2.2 x hx).trans e
  refine ⟨⟨r 352 nw (by decide) a1, (h nw a2).1, (h nw a2).2.1.trans a3⟩, ⟨r 353 kp (by decide) b1, (h kp b2).1, (h kp b2).2.1.trans b3⟩, ⟨r 354 tr (by decide) c1, (h tr c2).1, (h tr c2).2.1.trans c3⟩, fun x hx => ?_⟩
  rw [own_ex h a2, own_ex h b2, own_ex h c2]
  exact d x hx
theorem cns_ex {σ1 : pq_S} {tg1 : Nat → Nat} {X : List Nat} (h : EX σ σ1 tg tg1) (hSH : SH σ tg) (hT : TRI σ this nw kp tr) (hC : CNS σ nw kp I f g) (hk : KC X σ I I1) (hX : ∀ x, x ∈ cf7 → x ∈ cfl ∧ x ∉ X) : CNS σ1 nw kp I1 f g := fun p hp => by
  have m1 := own_in hSH hT.1.2.1 hT.1.2.2 _ (cfi_f hp)
  have m2 := own_in hSH hT.2.1.2.1 hT.2.1.2.2 _ (cfi_f hp)
  have x1 := hX _ (cfi_f hp)
  rw [own_ex h hT.1.2.1, own_ex h hT.2.1.2.1, hk _ x1.1 x1.2 _ m1, hk _ x1.1 x1.2 _ m2]
  exact hC p hp
theorem pu_fo {w : Nat} (h : FO σ w I I1) : PU1 320 w I I1 := fun x hx => h 320 (by decide) x (by rw [own_320]; exact hx)
end CNT
/-! ===== the rows of both sides ===== -/
/-- a row's field, and where it lies in the reference's row -/
abbrev rwl : List (Nat × Nat × Nat) := [(288, 108, 16), (33, 2400, 4)]
theorem rwl_all {P : Nat × Nat × Nat → Prop} (h1 : P (288, 108, 16)) (h2 : P (33, 2400, 4)) : ∀ e, e ∈ rwl → P e := fun e he => by
  simp only [rwl, List.mem_cons, List.not_mem_nil, or_false] at he
  rcases he with q | q <;> (subst q; assumption)
theorem rwl_t {e : Nat × Nat × Nat} (h : e ∈ rwl) : e.1 ∈ rt0 := (by decide : ∀ e, e ∈ rwl → e.1 ∈ rt0) e h
theorem rwl_1 {e d : Nat × Nat × Nat} (h : e ∈ rwl) (k : d ∈ rwl) (q : e.1 = d.1) : e = d := (by decide : ∀ e, e ∈ rwl → ∀ d, d ∈ rwl → e.1 = d.1 → e = d) e h d k q
def zof (t : Nat) : Nat := if t = 288 then 308 else 700
theorem rwl_z : ∀ e, e ∈ rwl → ∀ c, c < rln e.1 → zn (e.2.1 + e.2.2 * c) = zof e.1 := rwl_all (fun c hc => z308 c hc) (fun c hc => z700 c hc)
def TRR (σ : pq_S) (nw kp tr : Nat) : Prop := ∀ t, t ∈ rt0 → orow σ t nw ≠ orow σ t kp ∧ orow σ t nw ≠ orow σ t tr ∧ orow σ t kp ≠ orow σ t tr
def RWS (σ : pq_S) (nw kp : Nat) (r : Nat → Nat → Int32) (f g : Nat → Int32) : Prop := ∀ e, e ∈ rwl → ∀ c, c < rln e.1 → r (orow σ e.1 nw) c = f (e.2.1 + e.2.2 * c) ∧ r (orow σ e.1 kp) c = g (e.2.1 + e.2.2 * c)
section RWT
variable {σ : pq_S} {tg : Nat → Nat} {this nw kp tr : Nat} {r r1 : Nat → Nat → Int32} {f g f1 g1 : Nat → Int32}
theorem orow_in (h : SH σ tg) {w : Nat} (hw : w ∈ σ.1) (kw : σ.2.1 w = 10) : ∀ t, t ∈ rt0 → orow σ t w ∈ σ.1 ∧ tg (orow σ t w) = t := by
  obtain ⟨l, rl, hl, kl⟩ := sh_o h 327 (ci := 10) (kd := 2) rfl hw kw
  obtain ⟨k, rk, hk, kk⟩ := sh_o h 78 (ci := 2) (kd := 9) rfl hl kl
  obtain ⟨a, ra, ha, -, -, ta⟩ := sh_a h 288 (ci := 9) (kd := 13) (len := 40) rfl (by decide) hk kk
  obtain ⟨q, rg, hq, kq⟩ := sh_o h 330 (ci := 10) (kd := 1) rfl hw kw
  obtain ⟨c, rc, hc, -, -, tc⟩ := sh_a h 33 (ci := 1) (kd := 13) (len := 30) rfl (by decide) hq kq
  refine rt0_all ?_ ?_
  · rw [orow_288 rl rk ra]; exact ⟨ha, ta⟩
  · rw [orow_33 rg rc]; exact ⟨hc, tc⟩
theorem orow_ne (h : SH σ tg) (hJ : FJ σ) {w v : Nat} (hw : w ∈ σ.1) (kw : σ.2.1 w = 10) (hv : v ∈ σ.1) (kv : σ.2.1 v = 10) (hne : w ≠ v) : ∀ t, t ∈ rt0 → orow σ t w ≠ orow σ t v := by
  obtain ⟨l, rl, hl, kl⟩ := sh_o h 327 (ci := 10) (kd := 2) rfl hw kw
  obtain ⟨k, rk, hk, kk⟩ := sh_o h 78 (ci := 2) (kd := 9) rfl hl kl
  obtain ⟨a, ra, ha, -⟩ := sh_a h 288 (ci := 9) (kd := 13) (len := 40) rfl (by decide) hk kk
  obtain ⟨q, rg, hq, kq⟩ := sh_o h 330 (ci := 10) (kd := 1) rfl hw kw
  obtain ⟨c, rc, hc, -⟩ := sh_a h 33 (ci := 1) (kd := 13) (len := 30) rfl (by decide) hq kq
  obtain ⟨l2, rl2, hl2, kl2⟩ := sh_o h 327 (ci := 10) (kd := 2) rfl hv kv
  obtain ⟨k2, rk2, hk2, kk2⟩ := sh_o h 78 (ci := 2) (kd := 9) rfl hl2 kl2
  obtain ⟨a2, ra2, ha2, -⟩ := sh_a h 288 (ci := 9) (kd := 13) (len := 40) rfl (by decide) hk2 kk2
  obtain ⟨q2, rg2, hq2, kq2⟩ := sh_o h 330 (ci := 10) (kd := 1) rfl hv kv
  obtain ⟨c2, rc2, hc2, -⟩ := sh_a h 33 (ci := 1) (kd := 13) (len := 30) rfl (by decide) hq2 kq2
  have up : ∀ (x w v a b : Nat), w ∈ σ.1 → v ∈ σ.1 → (ftp x).1 = σ.2.1 w → (ftp x).1 = σ.2.1 v → σ.2.2.1 x w = some a → σ.2.2.1 x v = some b → a = b → w = v := fun x w v a b hw hv k1 k2 r1 r2 e => (hJ x x w v b hw hv k1 k2 (by rw [r1, e]) r2).2
  refine rt0_all ?_ ?_
  · rw [orow_288 rl rk ra, orow_288 rl2 rk2 ra2]
    intro e
    have e1 := up 288 k k2 a a2 hk hk2 (by rw [kk]; rfl) (by rw [kk2]; rfl) ra ra2 e
    have e2 := up 78 l l2 k k2 hl hl2 (by rw [kl]; rfl) (by rw [kl2]; rfl) rk rk2 e1
    exact hne (up 327 w v l l2 hw hv (by rw [kw]; rfl) (by rw [kv]; rfl) rl rl2 e2)
  · rw [orow_33 rg rc, orow_33 rg2 rc2]
    intro e
    have e1 := up 33 q q2 c c2 hq hq2 (by rw [kq]; rfl) (by rw [kq2]; rfl) rc rc2 e
    exact hne (up 330 w v q q2 hw hv (by rw [kw]; rfl) (by rw [kv]; rfl) rg rg2 e1)
theorem trr_of (h : SH σ tg) (hJ : FJ σ) (hT : TRI σ this nw kp tr) : TRR σ nw kp tr := fun t ht => by
  have n := hT.2.2.2 320 (by decide)
  simp only [own_320] at n
  exact ⟨orow_ne h hJ hT.1.2.1 hT.1.2.2 hT.2.1.2.1 hT.2.1.2.2 n.1 t ht, orow_ne h hJ hT.1.2.1 hT.1.2.2 hT.2.2.1.2.1 hT.2.2.1.2.2 n.2.1 t ht, orow_ne h hJ hT.2.1.2.1 hT.2.1.2.2 hT.2.2.1.2.1 hT.2.2.1.2.2 n.2.2 t ht⟩
/-- what both sides leave of the rows -/
def SZ (f f1 : Nat → Int32) : Prop := ∀ j, zn j ∈ [308, 700] → f1 j = f j
theorem sz_e {e : Nat × Nat × Nat} (he : e ∈ rwl) {c : Nat} (hc : c < rln e.1) (h : SZ f f1) : f1 (e.2.1 + e.2.2 * c) = f (e.2.1 + e.2.2 * c) := h _ (by rw [rwl_z e he c hc]; exact (by decide : ∀ e, e ∈ rwl → zof e.1 ∈ [308, 700]) e he)
theorem rws_keep (hSH : SH σ tg) (hT : TRI σ this nw kp tr) (h : RWS σ nw kp r f g) (e : ∀ t, t ∈ rt0 → RID tg t r r1) (ef : SZ f f1) (eg : SZ g g1) : RWS σ nw kp r1 f1 g1 := fun d hd c hc => by
  rw [e _ (rwl_t hd) _ (orow_in hSH hT.1.2.1 hT.1.2.2 _ (rwl_t hd)).2, e _ (rwl_t hd) _ (orow_in hSH hT.2.1.2.1 hT.2.1.2.2 _ (rwl_t hd)).2, sz_e hd hc ef, sz_e hd hc eg]
  exact h d hd c hc
theorem rws_fo (hSH : SH σ tg) (hT : TRI σ this nw kp tr) (hR : TRR σ nw kp tr) (h : RWS σ nw kp r f g) (e : FR0 σ tg tr r r1) (ef : SZ f f1) (eg : SZ g g1) : RWS σ nw kp r1 f1 g1 := fun d hd c hc => by
  have n := hR _ (rwl_t hd)
  rw [e _ (rwl_t hd) _ (orow_in hSH hT.1.2.1 hT.1.2.2 _ (rwl_t hd)).2 n.2.1, e _ (rwl_t hd) _ (orow_in hSH hT.2.1.2.1 hT.2.1.2.2 _ (rwl_t hd)).2 n.2.2, sz_e hd hc ef, sz_e hd hc eg]
  exact h d hd c hc
theorem rws_img (hSH : SH σ tg) (hT : TRI σ this nw kp tr) (hR : TRR σ nw kp tr) (h : RWS σ nw kp r f g) (e : UPR σ tg r r1 kp nw) (ef : SZ f f1) (eg : SZ f g1) : RWS σ nw kp r1 f1 g1 := fun d hd c hc => by
  have n := hR _ (rwl_t hd)
  have k := e _ (rwl_t hd)
  rw [k.1 c hc, k.2 _ (orow_in hSH hT.1.2.1 hT.1.2.2 _ (rwl_t hd)).2 n.1, sz_e hd hc ef, sz_e hd hc eg]
  exact ⟨(h d hd c hc).1, (h d hd c hc).1⟩
theorem rws_back (hSH : SH σ tg) (hT : TRI σ this nw kp tr) (hR : TRR σ nw kp tr) (h : RWS σ nw kp r f g) (e : UPR σ tg r r1 nw kp) (ef : SZ g f1) (eg : SZ g g1) : RWS σ nw kp r1 f1 g1 := fun d hd c hc => by
  have n := hR _ (rwl_t hd)
  have k := e _ (rwl_t hd)
  rw [k.1 c hc, k.2 _ (orow_in hSH hT.2.1.2.1 hT.2.1.2.2 _ (rwl_t hd)).2 (fun y => n.1 y.symm), sz_e hd hc ef, sz_e hd hc eg]
  exact ⟨(h d hd c hc).2, (h d hd c hc).2⟩
theorem rws_put (t b s n : Nat) {o i : Nat} {x : Int32} (hSH : SH σ tg) (hT : TRI σ this nw kp tr) (hR : TRR σ nw kp tr) (h : RWS σ nw kp r f g) (hm : (t, b, s) ∈ rwl) (hn : rln t = n) (ho : orow σ t nw = o) (hw : RW1 tg t o i x r r1) (e : ∀ t2, t2 ∈ rt0 → t2 ≠ t → RID tg t2 r r1) (ep : ∀ c, c < n → f1 (b + s * c) = if c = i then x else f (b + s * c)) (ef : ∀ j, zn j ∈ [308, 700] → zn j ≠ zof t → f1 j = f j) (eg : SZ g g1) : RWS σ nw kp r1 f1 g1 := fun d hd c hc => by
  have hk := (orow_in hSH hT.2.1.2.1 hT.2.1.2.2 _ (rwl_t hd)).2
  by_cases hdt : d.1 = t
  · have q := rwl_1 hd hm hdt
    subst q
    have m := (hR _ (rwl_t hd)).1
    refine ⟨?_, ?_⟩
    · have e1 : r1 (orow σ t nw) c = upd (r o) i x c := by rw [ho, hw.1]
      have e2 := ep c (by rw [← hn]; exact hc)
      have e3 := (h _ hd c hc).1
      show r1 (orow σ t nw) c = f1 (b + s * c)
      rw [e1, e2]
      unfold upd
      split
      · rfl
      · rw [← ho]; exact e3
    · rw [hw.2 _ hk (fun y => m (by rw [ho, ← y])), sz_e hd hc eg]
      exact (h _ hd c hc).2
  · have z := rwl_z d hd c hc
    have zne : zof d.1 ≠ zof t := (by decide : ∀ d, d ∈ rwl → ∀ k, k ∈ rwl → d.1 ≠ k.1 → zof d.1 ≠ zof k.1) d hd _ hm hdt
    rw [e _ (rwl_t hd) hdt _ (orow_in hSH hT.1.2.1 hT.1.2.2 _ (rwl_t hd)).2, e _ (rwl_t hd) hdt _ hk, sz_e hd hc eg, ef _ (by rw [z]; exact (by decide : ∀ e, e ∈ rwl → zof e.1 ∈ [308, 700]) d hd) (by rw [z]; exact zne)]
    exact h d hd c hc
theorem gx_rid {X : List Nat} {I0 I : Nat → Nat → Int32} {j0 rj : Nat → Nat → Int64} {rq : Nat → Nat → Option Nat} (h : GX X tg σ I0 r j0 I r1 rj rq) (hX : ∀ t, t ∈ rt0 → t ∈ rtl ∧ 1000 + t ∉ X) : ∀ t, t ∈ rt0 → RID tg t r r1 := fun t ht => rid_c h (hX t ht)
theorem gx_rid1 {X : List Nat} {I0 I : Nat → Nat → Int32} {j0 rj : Nat → Nat → Int64} {rq : Nat → Nat → Option Nat} {y : Nat} (h : GX X tg σ I0 r j0 I r1 rj rq) (hX : ∀ t, t ∈ rt0 → t ≠ y → t ∈ rtl ∧ 1000 + t ∉ X) : ∀ t, t ∈ rt0 → t ≠ y → RID tg t r r1 := fun t ht hy => rid_c h (hX t ht hy)
theorem gm_sz {X : List Nat} {I I1 r0 r1 : Nat → Nat → Int32} {rq : Nat → Nat → Option Nat} {va : Nat} (h : GM X tg σ I r0 I1 r1 rq) (hT : tg va = 384) (hX : ∀ z, z ∈ [308, 700] → z ∈ ztl ∧ 1000 + z ∉ X) : SZ (r0 va) (r1 va) := fun j hj => h.2.2.1 va hT j (hX _ hj).1 (hX _ hj).2
theorem gm_sz1 {X : List Nat} {I I1 r0 r1 : Nat → Nat → Int32} {rq : Nat → Nat → Option Nat} {va y : Nat} (h : GM X tg σ I r0 I1 r1 rq) (hT : tg va = 384) (hX : ∀ z, z ∈ [308, 700] → z ≠ y → z ∈ ztl ∧ 1000 + z ∉ X) : ∀ j, zn j ∈ [308, 700] → zn j ≠ y → r1 va j = r0 va j := fun j hj hy => h.2.2.1 va hT j (hX _ hj hy).1 (hX _ hj hy).2
theorem gm_szi {X : List Nat} {I I1 r0 r1 : Nat → Nat → Int32} {rq : Nat → Nat → Option Nat} {vi : Nat} (h : GM X tg σ I r0 I1 r1 rq) (hT : tg vi = 385) (hX : 2000 ∉ X) : SZ (r0 vi) (r1 vi) := fun j _ => congrFun (h.2.2.2 385 2000 (by decide) hX vi hT) j
theorem sz_z (h : ∀ j, zn j ∈ ztl → f1 j = f j) : SZ f f1 := fun j hj => h j ((by decide : ∀ z, z ∈ [308, 700] → z ∈ ztl) _ hj)
theorem sz_eq (h : f1 = f) : SZ f f1 := fun j _ => congrFun h j
theorem orow_ex {σ1 : pq_S} {tg1 : Nat → Nat} (h : EX σ σ1 tg tg1) (hSH : SH σ tg) {w : Nat} (hw : w ∈ σ.1) (kw : σ.2.1 w = 10) : ∀ t, t ∈ rt0 → orow σ1 t w = orow σ t w := by
  obtain ⟨l, rl, hl, kl⟩ := sh_o hSH 327 (ci := 10) (kd := 2) rfl hw kw
  obtain ⟨k, rk, hk, kk⟩ := sh_o hSH 78 (ci := 2) (kd := 9) rfl hl kl
  obtain ⟨a, ra, ha, -⟩ := sh_a hSH 288 (ci := 9) (kd := 13) (len := 40) rfl (by decide) hk kk
  obtain ⟨q, rg, hq, kq⟩ := sh_o hSH 330 (ci := 10) (kd := 1) rfl hw kw
  obtain ⟨c, rc, hc, -⟩ := sh_a hSH 33 (ci := 1) (kd := 13) (len := 30) rfl (by decide) hq kq
  have m : ∀ x b y, b ∈ σ.1 → x ≠ 131 → σ.2.2.1 x b = some y → σ1.2.2.1 x b = some y := fun x b y hb hx e => ((h b hb).2.2.2.2 x hx).trans e
  refine rt0_all ?_ ?_
  · rw [orow_288 rl rk ra, orow_288 (m _ _ _ hw (by decide) rl) (m _ _ _ hl (by decide) rk) (m _ _ _ hk (by decide) ra)]
  · rw [orow_33 rg rc, orow_33 (m _ _ _ hw (by decide) rg) (m _ _ _ hq (by decide) rc)]
theorem trr_ex {σ1 : pq_S} {tg1 : Nat → Nat} (h : EX σ σ1 tg tg1) (hSH : SH σ tg) (hT : TRI σ this nw kp tr) (hR : TRR σ nw kp tr) : TRR σ1 nw kp tr := fun t ht => by
  rw [orow_ex h hSH hT.1.2.1 hT.1.2.2 t ht, orow_ex h hSH hT.2.1.2.1 hT.2.1.2.2 t ht, orow_ex h hSH hT.2.2.1.2.1 hT.2.2.1.2.2 t ht]
  exact hR t ht
theorem rws_ex {σ1 : pq_S} {tg1 : Nat → Nat} {X : List Nat} (h : EX σ σ1 tg tg1) (hSH : SH σ tg) (hT : TRI σ this nw kp tr) (hC : RWS σ nw kp r f g) (hk : KR X σ tg r r1) (hX : ∀ t, t ∈ rt0 → t ∈ rtl ∧ 1000 + t ∉ X) : RWS σ1 nw kp r1 f g := fun d hd c hc => by
  have ht := rwl_t hd
  have m1 := orow_in hSH hT.1.2.1 hT.1.2.2 _ ht
  have m2 := orow_in hSH hT.2.1.2.1 hT.2.1.2.2 _ ht
  rw [orow_ex h hSH hT.1.2.1 hT.1.2.2 _ ht, orow_ex h hSH hT.2.1.2.1 hT.2.1.2.2 _ ht, hk _ (hX _ ht).1 (hX _ ht).2 _ m1.1 m1.2, hk _ (hX _ ht).1 (hX _ ht).2 _ m2.1 m2.2]
  exact hC d hd c hc
end RWT
section RWU
variable {σ : pq_S} {tg : Nat → Nat} {this nw kp tr : Nat} {r r1 : Nat → Nat → Int32} {f g f1 g1 : Nat → Int32}
theorem rws_same (t b s n : Nat) (hSH : SH σ tg) (hT : TRI σ this nw kp tr) (h : RWS σ nw kp r f g) (hm : (t, b, s) ∈ rwl) (hn : rln t = n) (e : ∀ t2, t2 ∈ rt0 → RID tg t2 r r1) (ep : ∀ c, c < n → f1 (b + s * c) = f (b + s * c)) (ef : ∀ j, zn j ∈ [308, 700] → zn j ≠ zof t → f1 j = f j) (eg : SZ g g1) : RWS σ nw kp r1 f1 g1 := fun d hd c hc => by
  rw [e _ (rwl_t hd) _ (orow_in hSH hT.1.2.1 hT.1.2.2 _ (rwl_t hd)).2, e _ (rwl_t hd) _ (orow_in hSH hT.2.1.2.1 hT.2.1.2.2 _ (rwl_t hd)).2, sz_e hd hc eg]
  by_cases hdt : d.1 = t
  · have q := rwl_1 hd hm hdt
    subst q
    have e2 := ep c (by rw [← hn]; exact hc)
    show r (orow σ t nw) c = f1 (b + s * c) ∧ _
    rw [e2]
    exact h _ hd c hc
  · have z := rwl_z d hd c hc
    have zne : zof d.1 ≠ zof t := (by decide : ∀ d, d ∈ rwl → ∀ k, k ∈ rwl → d.1 ≠ k.1 → zof d.1 ≠ zof k.1) d hd _ hm hdt
    rw [ef _ (by rw [z]; exact (by decide : ∀ e, e ∈ rwl → zof e.1 ∈ [308, 700]) d hd) (by rw [z]; exact zne)]
    exact h d hd c hc
end RWU
/-- both objects whole, apart, their counts the same; what was there before the law untouched -/
def LI (s : State) (D : va_G) (t : pq_T) (this that : Nat) (H : Heap) (locs : List Loc) : Prop := ∃ (σ : pq_S) (I : Nat → Nat → Int32) (J : Nat → Nat → Int64) (ri : Nat → Nat → Int32) (rj : Nat → Nat → Int64) (rq : Nat → Nat → Option Nat) (tg : Nat → Nat) (τ : pq_S) (I2 : Nat → Nat → Int32) (J2 : Nat → Nat → Int64) (si : Nat → Nat → Int32) (sj : Nat → Nat → Int64) (sq : Nat → Nat → Option Nat) (tg2 : Nat → Nat) (nw kp tr va vi : Nat), (va_P D vwCl (pq_P t σ (I, J, ri, rj, rq)) H ∧ va_D (fun q => s.heap.size ≤ q) (pq_P t σ (I, J, ri, rj, rq)) ∧ SH σ tg ∧ GS tg σ I ri rq ∧ FI σ ∧ this ∈ σ.1 ∧ σ.2.1 this = 11) ∧ (va_P D vwCl (pq_P t τ (I2, J2, si, sj, sq)) H ∧ va_D (fun q => s.heap.size ≤ q) (pq_P t τ (I2, J2, si, sj, sq)) ∧ SH τ tg2 ∧ GT tg2 I2 si ∧ that ∈ τ.1 ∧ τ.2.1 that = 12) ∧ (∀ a, a ∈ τ.1 → a ∉ σ.1) ∧ TRI σ this nw kp tr ∧ ((τ.2.2.1 384 that = some va ∧ va ∈ τ.1 ∧ τ.2.1 va = 13 ∧ τ.2.2.2 va = 12720 ∧ tg2 va = 384) ∧ (τ.2.2.1 385 that = some vi ∧ vi ∈ τ.1 ∧ τ.2.1 vi = 13 ∧ τ.2.2.2 vi = 12720 ∧ tg2 vi = 385)) ∧ CNS σ nw kp I (si va) (si vi) ∧ TRR σ nw kp tr ∧ RWS σ nw kp ri (si va) (si vi) ∧ va_S (fun q => s.heap.size ≤ q) s.heap H locs
theorem lw_ix {x3 : Int32} {n L : Nat} (h3 : x3.toInt = 7 * (n : Int)) (hL : 7 * n + 7 ≤ L) (hM : L ≤ 3584) {k : Int32} (hk : rg k 0 6) : vp_in (x3 + k) L := by
  have e : (x3 + k).toInt = x3.toInt + k.toInt := i_add_rg (x := x3) (y := k) (a := 0) (b := 3584) (c := 0) (d := 6) rfl rfl ⟨by omega, by omega⟩ hk (by decide)
  have q1 := hk.1
  have q2 := hk.2
  exact vp_in_iff.mpr ⟨by omega, by omega⟩
