-- ===== end of PART A; then your names; then what follows =====
/-! THE CLAIM OUT OF ONE WALK OF THE LAW'S BODY. Your part is whole_start (and what it stands on); all else here is the same for every law, but numbers. -/
def R_law : String := "RingsUnderLaw"
def lw_P (b : Addr) (xs : List Int32) (args : Array Value) (s : State) : Prop := args = #[.ref b] ∧ s.IntsAt b xs ∧ xs.length ≤ 3584 ∧ (Jvm.Cond.and given_1 narrow_1).before args s = true
def lw_Q (_ : Array Value) (s : State) (o : Outcome) (t : State) : Prop := o = .returned (some (.int 1)) ∧ Framed s o t [] 600000 7302250
def lw_Z (below : List Frame) (a : Array Value) (s : State) : State → Prop := fun t => ∃ o, t.status = .running ∧ Ended t below o ∧ lw_Q a s o t
/-- the law's own end, with 1 on the stack, nothing written that was there before, its room as the claim has it -/
theorem lw_ret {p : Program} {l : Launch} {e : Env} {s : State} {m : MethodId} {below : List Frame} {meth : Method} {c : Code} {b : Nat} (hx : p.tables.exec = Jvm.exec) (hb : c.code = code) (hr : meth.sig.returnType = ret) (hlocks : meth.locks = false) {pc : Nat} {H : Heap} {ls : Array Slot} (hdg : decode code pc = .ok (.ireturn, 1)) : W p l e room_1 s m #[Value.ref b] below meth c H [] 600000 7302250 (lw_Z below #[Value.ref b] s) (F0 m pc ls [.int 1]) := by
  intro T hT X
  obtain ⟨fs, hret, hrun, hended, hW, hframe⟩ := X.leave (v := some (.int 1)) (hlocks := hlocks) (fun h => by rw [hr] at h; cases h)
  have hmeth' : T.vm.method? m = some meth := X.method'
  refine ⟨T.setFrames fs, ?_, .returned (some (.int 1)), hrun, hended, rfl, ⟨_, rfl⟩, hW, hframe⟩
  jvm_step X.here [X.here.top, hx, hb, hdg, hmeth', hr, ret, narrow_b1]
  (try refine ⟨rfl, ?_⟩); (try refine ⟨rfl, ?_⟩)
  first | (intro acts; rw [hret _ acts rfl rfl rfl]) | rw [hret _ _ rfl rfl rfl]
  exact Steps.refl _
/-- what holds at the law's entry: the machine, the code, the tables' words (any of lw_tbl by 'hts w (by decide +kernel)'), the script of L ints xs at the cell b, what the Statement gives of the start (any of its parts by flat_of_before) -/
def lw_At (p : Program) (s : State) (m : MethodId) (meth : Method) (c : Code) (b L : Nat) (xs : Nat → Int32) : Prop :=
  p.tables.exec = Jvm.exec ∧ c.code = code ∧ meth.sig.returnType = ret ∧ c.maxLocals = 4 ∧ s.vm.findClass R_law = some m.cls ∧ (∀ w ∈ lw_tbl, w.before #[Value.ref b] s = true) ∧ va_X b L xs s s.heap ∧ b < s.heap.size ∧ meth.locks = false ∧ (Jvm.Cond.and given_1 narrow_1).before #[Value.ref b] s = true
/-! ===== the law: what holds of both objects between two calls ===== -/
section LXI
variable {p : Program} {l : Launch} {e : Env} {R : Room} {s : State} {m : MethodId} {args : Array Value} {below : List Frame} {meth : Method} {c : Code} {H : Heap} {locs : List Loc} {cells slots : Nat} {Q : State → Prop}
variable {cc : ByteArray} {pc : Nat} {ls : Array Slot} {rest : List Value} {D : va_G} {A : Nat → Prop} {a : Nat} {t : pq_T} {σ τ : pq_S} {H0 : Heap}
theorem lx_i {post : Int32 → pq_S × pq_M → Prop} {st0 : List Value} {μ ν : pq_M} {mc ms : Nat} {av : Array Value} (hr : va_Run p l e R s m args below meth c H locs cells slots mc ms (F0 m pc ls st0) rest (va_Qi post (pq_Ou D t (pq_B t σ μ H.size)) (pq_B t σ μ H.size) av) (pq_B t σ μ H.size)) (hD : va_D A (pq_P t σ μ)) (hS : va_S A H0 H locs) (hA : ∀ q, H0.size ≤ q → A q) (hP2 : va_P D vwCl (pq_P t τ ν) H) (hdis : ∀ a, a ∈ τ.1 → a ∉ σ.1)
    (kk : ∀ (r : Int32) (σ1 : pq_S) (μ1 : pq_M) (H1 : Heap) (locs1 : List Loc), post r (σ1, μ1) → va_P D vwCl (pq_P t σ1 μ1) H1 → va_D A (pq_P t σ1 μ1) → va_P D vwCl (pq_P t τ ν) H1 → (∀ a, a ∈ τ.1 → a ∉ σ1.1) → va_S A H0 H1 locs1 → W p l e R s m args below meth c H1 locs1 (cells + mc) (slots + ms) Q (F0 m (pc + 3) ls (.int r :: rest))) : W p l e R s m args below meth c H locs cells slots Q (F0 m pc ls st0) := by
  have hF := pq_A (D := D) hD hS hA
  refine va_calli hr hS (fun q _ h => hF q h) hF (fun r u t1 H1 locs1 ht hvm hw hB hz hk hS1 => ?_)
  obtain ⟨hP1, -, hD1⟩ := hB
  refine kk r u.1 u.2 H1 locs1 hw (by rw [← ht]; exact hP1) (hD1.weaken (fun _ q _ h => hF q.1 h)) (pq_keep hP2 hdis hk) (fun a ha hu => ?_) hS1
  obtain ⟨k, hk2⟩ := pq_in (t := t) (μ := u.2) hu
  rcases hD1.2 k _ hk2 with ⟨_, e2, h2⟩ | h2
  · exact hdis a ha (pq_mem (q := (a, e2)) h2)
  · exact absurd (pq_lt hP2 ha) (Nat.not_lt.mpr h2)
end LXI
/-- both objects whole, apart, and what was there before the law untouched -/
def LI (s : State) (D : va_G) (t : pq_T) (this that : Nat) (H : Heap) (locs : List Loc) : Prop := ∃ (σ : pq_S) (I : Nat → Nat → Int32) (J : Nat → Nat → Int64) (ri : Nat → Nat → Int32) (rj : Nat → Nat → Int64) (rq : Nat → Nat → Option Nat) (tg : Nat → Nat) (τ : pq_S) (I2 : Nat → Nat → Int32) (J2 : Nat → Nat → Int64) (si : Nat → Nat → Int32) (sj : Nat → Nat → Int64) (sq : Nat → Nat → Option Nat) (tg2 : Nat → Nat), (va_P D vwCl (pq_P t σ (I, J, ri, rj, rq)) H ∧ va_D (fun q => s.heap.size ≤ q) (pq_P t σ (I, J, ri, rj, rq)) ∧ SH σ tg ∧ GS tg σ I ri rq ∧ FI σ ∧ this ∈ σ.1 ∧ σ.2.1 this = 11) ∧ (va_P D vwCl (pq_P t τ (I2, J2, si, sj, sq)) H ∧ va_D (fun q => s.heap.size ≤ q) (pq_P t τ (I2, J2, si, sj, sq)) ∧ SH τ tg2 ∧ GT tg2 I2 si ∧ that ∈ τ.1 ∧ τ.2.1 that = 12) ∧ (∀ a, a ∈ τ.1 → a ∉ σ.1) ∧ va_S (fun q => s.heap.size ≤ q) s.heap H locs
theorem lw_ix {x3 : Int32} {n L : Nat} (h3 : x3.toInt = 7 * (n : Int)) (hL : 7 * n + 7 ≤ L) (hM : L ≤ 3584) {k : Int32} (hk : rg k 0 6) : vp_in (x3 + k) L := by
  have e : (x3 + k).toInt = x3.toInt + k.toInt := i_add_rg (x := x3) (y := k) (a := 0) (b := 3584) (c := 0) (d := 6) rfl rfl ⟨by omega, by omega⟩ hk (by decide)
  have q1 := hk.1
  have q2 := hk.2
  exact vp_in_iff.mpr ⟨by omega, by omega⟩
