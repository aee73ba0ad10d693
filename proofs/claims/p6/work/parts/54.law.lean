-- ===== end of PART A; then your names; then what follows =====
/-! THE CLAIM OUT OF ONE WALK OF THE LAW'S BODY. Your part is whole_start (and what it stands on); all else here is the same for every law, but numbers. -/
def R_law : String := "RingsUnderLaw"
def lw_P (b : Addr) (xs : List Int32) (args : Array Value) (s : State) : Prop := args = #[.ref b] ∧ s.IntsAt b xs ∧ xs.length ≤ 3584 ∧ (Jvm.Cond.and given_1 narrow_1).before args s = true
def lw_Q (_ : Array Value) (s : State) (o : Outcome) (t : State) : Prop := o = .returned (some (.int 1)) ∧ Framed s o t [] 600000 7302250
def lw_Z (below : List Frame) (a : Array Value) (s : State) : State → Prop := fun t => ∃ o, t.status = .running ∧ Ended t below o ∧ lw_Q a s o t
/-- the law's own end, with 1 on the stack, nothing written that was there before, its room as the claim has it -/
theorem lw_ret {p : Program} {l : Launch} {e : Env} {s : State} {m : MethodId} {below : List Frame} {meth : Method} {c : Code} {b : Nat} (hx : p.tables.exec = Jvm.exec) (hb : c.code = code) (hr : meth.sig.returnType = ret) (hlocks : meth.locks = false) {pc : Nat} {H : Heap} {ls : Array Slot} (hdg : decode code pc = .ok (.ireturn, 1)) : W p l e room_1 s m #[Value.ref b] below meth c H [] 600000 7302250 (lw_Z below #[Value.ref b] s) (F0 m pc ls [.int 1]) := by
  intro T hT X
  obtain ⟨fs, hret, hrun, hended, hW, hframe⟩ := X.leave (v := some (.int 1)) (hlocks := hlocks) (fun h => by rw [hr] at h; cases h)
  have hmeth' : T.vm.method? m = some meth := X.method'
  refine ⟨T.setFrames fs, ?_, .returned (some (.int 1)), hrun, hended, rfl, ⟨_, rfl⟩, hW, hframe⟩
  jvm_step X.here [X.here.top, hx, hb, hdg, hmeth', hr, ret, narrow_b1]
  (try refine ⟨rfl, ?_⟩); (try refine ⟨rfl, ?_⟩)
  first | (intro acts; rw [hret _ acts rfl rfl rfl]) | rw [hret _ _ rfl rfl rfl]
  exact Steps.refl _
/-- what holds at the law's entry: the machine, the code, the tables' words (any of lw_tbl by 'hts w (by decide +kernel)'), the script of L ints xs at the cell b, what the Statement gives of the start (any of its parts by flat_of_before) -/
def lw_At (p : Program) (s : State) (m : MethodId) (meth : Method) (c : Code) (b L : Nat) (xs : Nat → Int32) : Prop :=
  p.tables.exec = Jvm.exec ∧ c.code = code ∧ meth.sig.returnType = ret ∧ c.maxLocals = 4 ∧ s.vm.findClass R_law = some m.cls ∧ (∀ w ∈ lw_tbl, w.before #[Value.ref b] s = true) ∧ va_X b L xs s s.heap ∧ b < s.heap.size ∧ meth.locks = false ∧ (Jvm.Cond.and given_1 narrow_1).before #[Value.ref b] s = true
/-! ===== the law: what holds of both objects between two calls ===== -/
section LXI
variable {p : Program} {l : Launch} {e : Env} {R : Room} {s : State} {m : MethodId} {args : Array Value} {below : List Frame} {meth : Method} {c : Code} {H : Heap} {locs : List Loc} {cells slots : Nat} {Q : State → Prop}
variable {cc : ByteArray} {pc : Nat} {ls : Array Slot} {rest : List Value} {D : va_G} {A : Nat → Prop} {a : Nat} {t : pq_T} {σ τ : pq_S} {H0 : Heap}
theorem lx_i {post : Int32 → pq_S × pq_M → Prop} {st0 : List Value} {μ ν : pq_M} {mc ms : Nat} {av : Array Value} (hr : va_Run p l e R s m args below meth c H locs cells slots mc ms (F0 m pc ls st0) rest (va_Qi post (pq_Ou D t (pq_B t σ μ H.size)) (pq_B t σ μ H.size) av) (pq_B t σ μ H.size)) (hD : va_D A (pq_P t σ μ)) (hS : va_S A H0 H locs) (hA : ∀ q, H0.size ≤ q → A q) (hP2 : va_P D vwCl (pq_P t τ ν) H) (hdis : ∀ a, a ∈ τ.1 → a ∉ σ.1)
    (kk : ∀ (r : Int32) (σ1 : pq_S) (μ1 : pq_M) (H1 : Heap) (locs1 : List Loc), post r (σ1, μ1) → va_P D vwCl (pq_P t σ1 μ1) H1 → va_D A (pq_P t σ1 μ1) → va_P D vwCl (pq_P t τ ν) H1 → (∀ a, a ∈ τ.1 → a ∉ σ1.1) → va_S A H0 H1 locs1 → W p l e R s m args below meth c H1 locs1 (cells + mc) (slots + ms) Q (F0 m (pc + 3) ls (.int r :: rest))) : W p l e R s m args below meth c H locs cells slots Q (F0 m pc ls st0) := by
  have hF := pq_A (D := D) hD hS hA
  refine va_calli hr hS (fun q _ h => hF q h) hF (fun r u t1 H1 locs1 ht hvm hw hB hz hk hS1 => ?_)
  obtain ⟨hP1, -, hD1⟩ := hB
  refine kk r u.1 u.2 H1 locs1 hw (by rw [← ht]; exact hP1) (hD1.weaken (fun _ q _ h => hF q.1 h)) (pq_keep hP2 hdis hk) (fun a ha hu => ?_) hS1
  obtain ⟨k, hk2⟩ := pq_in (t := t) (μ := u.2) hu
  rcases hD1.2 k _ hk2 with ⟨_, e2, h2⟩ | h2
  · exact hdis a ha (pq_mem (q := (a, e2)) h2)
  · exact absurd (pq_lt hP2 ha) (Nat.not_lt.mpr h2)
end LXI
/-! ===== the three Worlds are apart; SEAS and LAND of both sides ===== -/
def APS (σ : pq_S) (tg : Nat → Nat) (nw kp tr : Nat) : Prop := AP 10 tg σ nw kp ∧ AP 10 tg σ nw tr ∧ AP 10 tg σ kp tr
/-- the three Worlds of an object -/
def TR6 (σ : pq_S) (this nw kp tr : Nat) : Prop := (σ.2.2.1 352 this = some nw ∧ nw ∈ σ.1 ∧ σ.2.1 nw = 10) ∧ (σ.2.2.1 353 this = some kp ∧ kp ∈ σ.1 ∧ σ.2.1 kp = 10) ∧ (σ.2.2.1 354 this = some tr ∧ tr ∈ σ.1 ∧ σ.2.1 tr = 10) ∧ nw ≠ kp ∧ nw ≠ tr ∧ kp ≠ tr
section APL
variable {σ σ1 : pq_S} {tg tg1 : Nat → Nat} {this nw kp tr w v : Nat}
theorem kd_s (h : SH σ tg) {f ci k a : Nat} (e : ftp f = (ci, k, 0)) (hm : a ∈ σ.1) (hk : σ.2.1 a = ci) : σ.2.2.1 f a = some (kd σ f a) := by
  obtain ⟨w, r1, r2, r3⟩ := sh_o h f e hm hk
  rw [← kd_e r1]
  exact r1
theorem kd_inj (hJ : FJ σ) {f a b : Nat} (ha : a ∈ σ.1) (hb : b ∈ σ.1) (ka : (ftp f).1 = σ.2.1 a) (kb : (ftp f).1 = σ.2.1 b) (ra : σ.2.2.1 f a = some (kd σ f a)) (rb : σ.2.2.1 f b = some (kd σ f b)) (e : kd σ f a = kd σ f b) : a = b := (hJ f f a b (kd σ f b) ha hb ka kb (by rw [ra, e]) rb).2
theorem vo_ne (h : SH σ tg) (hJ : FJ σ) (hw : w ∈ σ.1) (kw : σ.2.1 w = 10) (hv : v ∈ σ.1) (kv : σ.2.1 v = 10) (hne : w ≠ v) : ∀ c, vcl 10 c = true → vo σ c v ≠ vo σ c w := fun c hc => by
  have hc : c ∈ [0, 1, 2, 3, 7, 9, 10] := of_decide_eq_true hc
  have one : ∀ f k, ftp f = (10, k, 0) → kd σ f v ≠ kd σ f w := fun f k e q => hne (kd_inj hJ hv hw (by rw [e, kv]) (by rw [e, kw]) (kd_s h e hv kv) (kd_s h e hw kw) q).symm
  simp only [List.mem_cons, List.not_mem_nil, or_false] at hc
  rcases hc with e | e | e | e | e | e | e <;> subst e
  · exact one 328 0 rfl
  · exact one 330 1 rfl
  · exact one 327 2 rfl
  · exact one 329 3 rfl
  · exact one 326 7 rfl
  · have iw := vo_in (f := 327) (ci := 10) (k := 2) h rfl hw kw
    have iv := vo_in (f := 327) (ci := 10) (k := 2) h rfl hv kv
    exact fun q => one 327 2 rfl (kd_inj hJ iv.1 iw.1 (by rw [iv.2]; rfl) (by rw [iw.2]; rfl) (kd_s (k := 9) h rfl iv.1 iv.2) (kd_s (k := 9) h rfl iw.1 iw.2) q)
  · exact fun q => hne q.symm
theorem ap_of (h : SH σ tg) (hJ : FJ σ) (hw : w ∈ σ.1) (kw : σ.2.1 w = 10) (hv : v ∈ σ.1) (kv : σ.2.1 v = 10) (hne : w ≠ v) : AP 10 tg σ w v := by
  have vw := vt_10 h hw kw
  have vv := vt_10 h hv kv
  refine ⟨vw, vv, vo_ne h hJ hw kw hv kv hne, fun t ht e => ?_⟩
  obtain ⟨e1, e2, e3⟩ := vok_c ht
  have ow := vw.2.1 _ e2
  have ov := vv.2.1 _ e2
  exact vo_ne h hJ hw kw hv kv hne _ e2 (kd_inj hJ ov.1 ow.1 (by rw [ov.2, e1]) (by rw [ow.2, e1]) (vv.2.2 t ht).2.2 (vw.2.2 t ht).2.2 e)
theorem aps_of (h : SH σ tg) (hJ : FJ σ) (hT : TR6 σ this nw kp tr) : APS σ tg nw kp tr := ⟨ap_of h hJ hT.1.2.1 hT.1.2.2 hT.2.1.2.1 hT.2.1.2.2 hT.2.2.2.1, ap_of h hJ hT.1.2.1 hT.1.2.2 hT.2.2.1.2.1 hT.2.2.1.2.2 hT.2.2.2.2.1, ap_of h hJ hT.2.1.2.1 hT.2.1.2.2 hT.2.2.1.2.1 hT.2.2.1.2.2 hT.2.2.2.2.2⟩
theorem tr6_of (h : SH σ tg) (hJ : FJ σ) (hL : this ∈ σ.1) (hK : σ.2.1 this = 11) : ∃ nw kp tr, TR6 σ this nw kp tr := by
  obtain ⟨n, rn, hn, kn⟩ := sh_o h 352 (ci := 11) (kd := 10) rfl hL hK
  obtain ⟨k, rk, hk, kk⟩ := sh_o h 353 (ci := 11) (kd := 10) rfl hL hK
  obtain ⟨r, rr, hr, kr⟩ := sh_o h 354 (ci := 11) (kd := 10) rfl hL hK
  have ne : ∀ (x y a b : Nat), σ.2.2.1 x this = some a → σ.2.2.1 y this = some b → (ftp x).1 = 11 → (ftp y).1 = 11 → x ≠ y → a ≠ b := fun x y a b ha hb h1 h2 hxy e => hxy (hJ x y this this b hL hL (by rw [hK, h1]) (by rw [hK, h2]) (by rw [ha, e]) hb).1
  exact ⟨n, k, r, ⟨rn, hn, kn⟩, ⟨rk, hk, kk⟩, ⟨rr, hr, kr⟩, ne 352 353 n k rn rk rfl rfl (by decide +kernel), ne 352 354 n r rn rr rfl rfl (by decide +kernel), ne 353 354 k r rk rr rfl rfl (by decide +kernel)⟩
/-! a text more -/
theorem kd_ex (h : EX σ σ1 tg tg1) {f a : Nat} (ha : a ∈ σ.1) (hf : f ≠ 131) : kd σ1 f a = kd σ f a := by
  unfold kd
  rw [(h a ha).2.2.2.2 f hf]
theorem vo_ex (h : EX σ σ1 tg tg1) (hSH : SH σ tg) (hw : w ∈ σ.1) (kw : σ.2.1 w = 10) : ∀ c, vcl 10 c = true → vo σ1 c w = vo σ c w := fun c hc => by
  have hc : c ∈ [0, 1, 2, 3, 7, 9, 10] := of_decide_eq_true hc
  simp only [List.mem_cons, List.not_mem_nil, or_false] at hc
  rcases hc with e | e | e | e | e | e | e <;> subst e
  · exact kd_ex h hw (by decide +kernel)
  · exact kd_ex h hw (by decide +kernel)
  · exact kd_ex h hw (by decide +kernel)
  · exact kd_ex h hw (by decide +kernel)
  · exact kd_ex h hw (by decide +kernel)
  · have iw := vo_in (f := 327) (ci := 10) (k := 2) hSH rfl hw kw
    show kd σ1 78 (kd σ1 327 w) = kd σ 78 (kd σ 327 w)
    rw [kd_ex h hw (by decide +kernel), kd_ex h iw.1 (by decide +kernel)]
  · rfl
theorem vrow_ex (h : EX σ σ1 tg tg1) (hSH : SH σ tg) (hw : w ∈ σ.1) (kw : σ.2.1 w = 10) : ∀ t, vok 10 t = true → vrow σ1 t w = vrow σ t w := fun t ht => by
  obtain ⟨e1, e2, e3⟩ := vok_c ht
  have ow := (vt_10 hSH hw kw).2.1 _ e2
  unfold vrow
  rw [vo_ex h hSH hw kw _ e2]
  exact kd_ex h ow.1 (fun q => by subst q; exact absurd e2 (by decide +kernel))
theorem ap_ex (h : EX σ σ1 tg tg1) (hSH : SH σ tg) (hSH1 : SH σ1 tg1) (hw : w ∈ σ.1) (kw : σ.2.1 w = 10) (hv : v ∈ σ.1) (kv : σ.2.1 v = 10) (hA : AP 10 tg σ w v) : AP 10 tg1 σ1 w v := ⟨vt_10 hSH1 (h w hw).1 ((h w hw).2.1.trans kw), vt_10 hSH1 (h v hv).1 ((h v hv).2.1.trans kv), fun c hc => by
  rw [vo_ex h hSH hw kw c hc, vo_ex h hSH hv kv c hc]
  exact hA.2.2.1 c hc, fun t ht => by
  rw [vrow_ex h hSH hw kw t ht, vrow_ex h hSH hv kv t ht]
  exact hA.2.2.2 t ht⟩
theorem aps_ex (h : EX σ σ1 tg tg1) (hSH : SH σ tg) (hSH1 : SH σ1 tg1) (hT : TR6 σ this nw kp tr) (hA : APS σ tg nw kp tr) : APS σ1 tg1 nw kp tr := ⟨ap_ex h hSH hSH1 hT.1.2.1 hT.1.2.2 hT.2.1.2.1 hT.2.1.2.2 hA.1, ap_ex h hSH hSH1 hT.1.2.1 hT.1.2.2 hT.2.2.1.2.1 hT.2.2.1.2.2 hA.2.1, ap_ex h hSH hSH1 hT.2.1.2.1 hT.2.1.2.2 hT.2.2.1.2.1 hT.2.2.1.2.2 hA.2.2⟩
theorem tr6_ex (h : EX σ σ1 tg tg1) (hL : this ∈ σ.1) (hT : TR6 σ this nw kp tr) : TR6 σ1 this nw kp tr := by
  obtain ⟨⟨a1, a2, a3⟩, ⟨b1, b2, b3⟩, ⟨c1, c2, c3⟩, d⟩ := hT
  have r : ∀ x q, x ≠ 131 → σ.2.2.1 x this = some q → σ1.2.2.1 x this = some q := fun x q hx e => ((h this hL).2.2.2.2 x hx).trans e
  exact ⟨⟨r 352 nw (by decide +kernel) a1, (h nw a2).1, (h nw a2).2.1.trans a3⟩, ⟨r 353 kp (by decide +kernel) b1, (h kp b2).1, (h kp b2).2.1.trans b3⟩, ⟨r 354 tr (by decide +kernel) c1, (h tr c2).1, (h tr c2).2.1.trans c3⟩, d⟩
end APL
/-! what the calls leave of SEAS and LAND -/
abbrev rlf : List Nat := [64, 65, 224, 234, 235, 236, 320]
abbrev rlt : List Nat := [69, 70, 73, 74, 75, 79, 225, 226, 227, 228, 229, 230, 231, 232]
section RLL
variable {σ σ1 τ : pq_S} {tg tg1 tg2 : Nat → Nat} {w M that : Nat} {X : List Nat} {A : Nat → Int32} {VI : Nat → Int32} {VR : Nat → Nat → Int32}
variable {I I1 I2 I3 ri r1 si s1 : Nat → Nat → Int32} {J J1 : Nat → Nat → Int64} {rj l1 : Nat → Nat → Int64} {rq q1 q2 : Nat → Nat → Option Nat}
theorem vr_a {t : Nat} (ht : t = 384 ∨ t = 385) (s : Nat → Nat → Int32) : vR 12 τ that s t = s (vrow τ t that) := by
  unfold vR
  rw [if_pos (by rcases ht with e | e <;> subst e <;> decide)]
theorem vr_t (hV : VT 12 τ tg2 that) {t : Nat} (ht : t = 384 ∨ t = 385) : tg2 (vrow τ t that) = t := (hV.2.2 t (by rcases ht with e | e <;> subst e <;> decide)).1
theorem rmx_of (h : GT tg2 I2 si) (hV : VT 12 τ tg2 that) {t : Nat} (ht : t = 384 ∨ t = 385) : RMX (vR 12 τ that si t) := by
  have hz : zt (tg2 (vrow τ t that)) = true := by
    rw [vr_t hV ht]
    rcases ht with e | e <;> subst e <;> decide
  have b1 := GM.z0 h hz (i := 1) (k := 1) (by decide +kernel) rfl
  have b5 := GM.z0 h hz (i := 5) (k := 5) (by decide +kernel) rfl
  have b4 := GM.z0 h hz (i := 4) (k := 4) (by decide +kernel) rfl
  rw [vr_a ht]
  exact ⟨⟨b1.1, b1.2⟩, ⟨b5.1, b5.2⟩, b4.2⟩
/-- a call of the class that lays no SEAS nor LAND -/
theorem rl_cl (h : RSL (vI 10 σ w I) (vR 10 σ w ri) A) (hg : GX X tg σ I ri rj I1 r1 l1 q1) (hV : VT 10 σ tg w) (hf : ∀ f, f ∈ rlf → f ∈ cfl ∧ f ∉ X) (ht : ∀ t, t ∈ rlt → t ∈ rtl ∧ 1000 + t ∉ X) : RSL (vI 10 σ w I1) (vR 10 σ w r1) A := by
  have row : ∀ t, t ∈ rlt → vR 10 σ w r1 t = vR 10 σ w ri t := fun t h1 => by
    unfold vR
    split
    · next hv => exact hg.2.2.1 t (ht t h1).1 (ht t h1).2 _ (hV.2.2 t hv).1
    · rfl
  refine RL_cg h (fun f hf1 => ?_) (fun t h1 j _ => ?_) (fun t h1 j _ => ?_) (fun t h1 j _ => ?_) (fun _ _ => rfl) h.2.1
  · have m : f ∈ rlf := (by decide +kernel : ∀ f, f ∈ [64, 65, 224, 234, 235, 236, 320] → f ∈ rlf) f hf1
    unfold vI
    rw [hg.2.1 f (hf f m).1 (hf f m).2]
  · rw [row t ((by decide +kernel : ∀ t, t ∈ [225, 226, 227, 228] → t ∈ rlt) t h1)]
  · rw [row t ((by decide +kernel : ∀ t, t ∈ [229, 230, 231, 232] → t ∈ rlt) t h1)]
  · rw [row t ((by decide +kernel : ∀ t, t ∈ [69, 70, 73, 74, 75, 79] → t ∈ rlt) t h1)]
/-- another World's tree -/
theorem rl_fr (h : RSL (vI 10 σ w I) (vR 10 σ w ri) A) (hF : FR 10 tg σ M (I, J, ri, rj, rq) (I1, J1, r1, l1, q1)) (hA : AP 10 tg σ M w) : RSL (vI 10 σ w I1) (vR 10 σ w r1) A := by
  rw [fr_cI hF hA, fr_cR hF hA]
  exact h
/-- a call of the reference that lays none -/
theorem rl_rf (h : RSL VI VR (vR 12 τ that si 384)) (hg : GM X tg2 τ I2 si I3 s1 q2) (hV : VT 12 τ tg2 that) (hz : ∀ z, z ∈ rlz → z ∈ ztl ∧ 1000 + z ∉ X) : RSL VI VR (vR 12 τ that s1 384) := RL_cg h (fun _ _ => rfl) (fun _ _ _ _ => rfl) (fun _ _ _ _ => rfl) (fun _ _ _ _ => rfl) (fun i hi => by
  rw [vr_a (Or.inl rfl), vr_a (Or.inl rfl)]
  exact hg.2.2.1 _ (vr_t hV (Or.inl rfl)) i (hz _ hi).1 (hz _ hi).2) (rmx_of hg.1 hV (Or.inl rfl))
/-- a tried call of the reference: the country is what it was -/
theorem rl_kc (h : RSL VI VR (vR 12 τ that si 384)) (hg : GT tg2 I3 s1) (hV : VT 12 τ tg2 that) (hk : ∀ i, i < 12720 → vR 12 τ that s1 384 i = vR 12 τ that si 384 i) : RSL VI VR (vR 12 τ that s1 384) := RL_cg h (fun _ _ => rfl) (fun _ _ _ _ => rfl) (fun _ _ _ _ => rfl) (fun _ _ _ _ => rfl) (fun i hi => hk i (zn_rl hi)) (rmx_of hg hV (Or.inl rfl))
/-- the picture stands -/
theorem rl_im (h : RSL VI VR (vR 12 τ that si 385)) (hg : GM X tg2 τ I2 si I3 s1 q2) (hV : VT 12 τ tg2 that) (hX : 2000 ∉ X) : RSL VI VR (vR 12 τ that s1 385) := by
  rw [show vR 12 τ that s1 385 = vR 12 τ that si 385 by rw [vr_a (Or.inr rfl), vr_a (Or.inr rfl)]; exact hg.2.2.2 385 2000 (by decide +kernel) hX _ (vr_t hV (Or.inr rfl))]
  exact h
/-- a copy of the whole: the picture is the country, or the country the picture -/
theorem rl_cp {t u : Nat} {nI I5 : Nat → Int32} {nR r5 : Nat → Nat → Int32} {J5 : Nat → Int64} {l5 : Nat → Nat → Int64} {q5 : Nat → Nat → Option Nat} (h : RSL nI nR (vR 12 τ that si u)) (q : QC nI nR (I5, J5, r5, l5, q5)) (hg : GT tg2 I3 s1) (hV : VT 12 τ tg2 that) (ht : t = 384 ∨ t = 385) (hk : ∀ i, i < 12720 → vR 12 τ that s1 t i = vR 12 τ that si u i) : RSL I5 r5 (vR 12 τ that s1 t) := RL_copy h q (fun i hi => hk i (zn_rl hi)) (rmx_of hg hV ht)
theorem cv_st {p q : Int32 × vM} {a b : Int32} {x1 y1 : Nat → Int32} {x2 y2 : Nat → Int64} {x3 y3 : Nat → Nat → Int32} {x4 y4 : Nat → Nat → Int64} {x5 y5 : Nat → Nat → Option Nat} (h : CV p q) (e1 : p = (a, x1, x2, x3, x4, x5)) (e2 : q = (b, y1, y2, y3, y4, y5)) : a = b ∧ RSL x1 x3 (y3 384) := by
  rw [e1, e2] at h
  exact h
theorem fst_st {p q : Int32 × vM} {a b : Int32} {x y : vM} (h : p.1 = q.1) (e1 : p = (a, x)) (e2 : q = (b, y)) : a = b := by
  rw [e1, e2] at h
  exact h
/-- a text more: the Worlds stand -/
theorem vr_ex (h : EX σ σ1 tg tg1) (hSH : SH σ tg) (hw : w ∈ σ.1) (kw : σ.2.1 w = 10) {Y Z : List Nat} (hL : RSL (vI 10 σ w I) (vR 10 σ w ri) A) (hk : KC Y σ I I1) (hX : ∀ x, x ∈ rlf → x ∈ cfl ∧ x ∉ Y) (hr : KR Z σ tg ri r1) (hY : ∀ t, t ∈ rlt → t ∈ rtl ∧ 1000 + t ∉ Z) : RSL (vI 10 σ1 w I1) (vR 10 σ1 w r1) A := by
  have hV := vt_10 hSH hw kw
  have row : ∀ t, t ∈ rlt → vR 10 σ1 w r1 t = vR 10 σ w ri t := fun t h1 => by
    have hv : vok 10 t = true := (by decide +kernel : ∀ t, t ∈ rlt → vok 10 t = true) t h1
    unfold vR
    rw [if_pos hv, if_pos hv, vrow_ex h hSH hw kw t hv]
    exact hr t (hY t h1).1 (hY t h1).2 _ (hV.2.2 t hv).2.1 (hV.2.2 t hv).1
  refine RL_cg hL (fun f hf1 => ?_) (fun t h1 j _ => ?_) (fun t h1 j _ => ?_) (fun t h1 j _ => ?_) (fun _ _ => rfl) hL.2.1
  · have m : f ∈ rlf := (by decide +kernel : ∀ f, f ∈ [64, 65, 224, 234, 235, 236, 320] → f ∈ rlf) f hf1
    have hc : vcl 10 (f / 32) = true := (by decide +kernel : ∀ f, f ∈ rlf → vcl 10 (f / 32) = true) f m
    unfold vI
    rw [if_pos hc, if_pos hc, vo_ex h hSH hw kw _ hc]
    exact hk f (hX f m).1 (hX f m).2 _ (hV.2.1 _ hc).1
  · rw [row t ((by decide +kernel : ∀ t, t ∈ [225, 226, 227, 228] → t ∈ rlt) t h1)]
  · rw [row t ((by decide +kernel : ∀ t, t ∈ [229, 230, 231, 232] → t ∈ rlt) t h1)]
  · rw [row t ((by decide +kernel : ∀ t, t ∈ [69, 70, 73, 74, 75, 79] → t ∈ rlt) t h1)]
/-! the graves -/
theorem gr_cl {A : Nat → Int32} (h : GRV (vI 10 σ w I) (vR 10 σ w ri) (vL 10 σ w rj) A) (hg : GX X tg σ I ri rj I1 r1 l1 q1) (hV : VT 10 σ tg w) (hf : 32 ∈ cfl ∧ 32 ∉ X) (ht : 33 ∈ rtl ∧ 1033 ∉ X) (hj : 34 ∈ jtl ∧ 1034 ∉ X) : GRV (vI 10 σ w I1) (vR 10 σ w r1) (vL 10 σ w l1) A := GRV_cg h (by
  unfold vI
  rw [hg.2.1 32 hf.1 hf.2]) (fun j _ => by
  unfold vR
  rw [if_pos (by decide +kernel), if_pos (by decide +kernel), hg.2.2.1 33 ht.1 ht.2 _ (hV.2.2 33 (by decide +kernel)).1]) (fun j _ => by
  unfold vL
  rw [if_pos (by decide +kernel), if_pos (by decide +kernel), hg.2.2.2 34 hj.1 hj.2 _ (hV.2.2 34 (by decide +kernel)).1]) rfl (fun _ _ _ _ => rfl)
theorem gr_fr {A : Nat → Int32} (h : GRV (vI 10 σ w I) (vR 10 σ w ri) (vL 10 σ w rj) A) (hF : FR 10 tg σ M (I, J, ri, rj, rq) (I1, J1, r1, l1, q1)) (hA : AP 10 tg σ M w) : GRV (vI 10 σ w I1) (vR 10 σ w r1) (vL 10 σ w l1) A := by
  rw [fr_cI hF hA, fr_cR hF hA, fr_cL hF hA]
  exact h
theorem zn_gr {g k : Nat} (hg : g < 30) (hk : k < 3) : zn (2400 + 4 * g + k) = 700 + k := by
  unfold zn
  rw [if_neg (by omega), if_neg (by omega), if_neg (by omega), if_neg (by omega), if_neg (by omega), if_neg (by omega), if_neg (by omega), if_neg (by omega), if_neg (by omega), if_pos (by omega)]
  omega
theorem gr_rf {VL : Nat → Nat → Int64} (h : GRV VI VR VL (vR 12 τ that si 384)) (hg : GM X tg2 τ I2 si I3 s1 q2) (hV : VT 12 τ tg2 that) (hz : ∀ z, z ∈ [10, 700, 701, 702] → z ∈ ztl ∧ 1000 + z ∉ X) : GRV VI VR VL (vR 12 τ that s1 384) := by
  have one : ∀ i, zn i ∈ [10, 700, 701, 702] → vR 12 τ that s1 384 i = vR 12 τ that si 384 i := fun i hi => by
    rw [vr_a (Or.inl rfl), vr_a (Or.inl rfl)]
    exact hg.2.2.1 _ (vr_t hV (Or.inl rfl)) i (hz _ hi).1 (hz _ hi).2
  exact GRV_cg h rfl (fun _ _ => rfl) (fun _ _ => rfl) (one 10 (by decide +kernel)) (fun g k hg2 hk => one _ (by
    rw [zn_gr hg2 hk]
    exact (by decide +kernel : ∀ k, k < 3 → 700 + k ∈ [10, 700, 701, 702]) k hk))
theorem gr_kc {VL : Nat → Nat → Int64} {t u : Nat} (h : GRV VI VR VL (vR 12 τ that si u)) (hk : ∀ i, i < 12720 → vR 12 τ that s1 t i = vR 12 τ that si u i) : GRV VI VR VL (vR 12 τ that s1 t) := GRV_cg h rfl (fun _ _ => rfl) (fun _ _ => rfl) (hk 10 (by decide +kernel)) (fun g k _ _ => hk _ (by omega))
theorem gr_im {VL : Nat → Nat → Int64} (h : GRV VI VR VL (vR 12 τ that si 385)) (hg : GM X tg2 τ I2 si I3 s1 q2) (hV : VT 12 τ tg2 that) (hX : 2000 ∉ X) : GRV VI VR VL (vR 12 τ that s1 385) := by
  rw [show vR 12 τ that s1 385 = vR 12 τ that si 385 by rw [vr_a (Or.inr rfl), vr_a (Or.inr rfl)]; exact hg.2.2.2 385 2000 (by decide +kernel) hX _ (vr_t hV (Or.inr rfl))]
  exact h
theorem gr_cp {t u : Nat} {nI I5 : Nat → Int32} {nR r5 : Nat → Nat → Int32} {nL l5 : Nat → Nat → Int64} {J5 : Nat → Int64} {q5 : Nat → Nat → Option Nat} (h : GRV nI nR nL (vR 12 τ that si u)) (q : QG nI nR nL (I5, J5, r5, l5, q5)) (hk : ∀ i, i < 12720 → vR 12 τ that s1 t i = vR 12 τ that si u i) : GRV I5 r5 l5 (vR 12 τ that s1 t) := GRV_cg h q.1 q.2.1 q.2.2 (hk 10 (by decide +kernel)) (fun g k _ _ => hk _ (by omega))
theorem cg_st {p q : Int32 × vM} {a b : Int32} {x1 y1 : Nat → Int32} {x2 y2 : Nat → Int64} {x3 y3 : Nat → Nat → Int32} {x4 y4 : Nat → Nat → Int64} {x5 y5 : Nat → Nat → Option Nat} (h : CG p q) (e1 : p = (a, x1, x2, x3, x4, x5)) (e2 : q = (b, y1, y2, y3, y4, y5)) : a = b ∧ GRV x1 x3 x4 (y3 384) := by
  rw [e1, e2] at h
  exact h
theorem gr_ex {A : Nat → Int32} (h : EX σ σ1 tg tg1) (hSH : SH σ tg) (hw : w ∈ σ.1) (kw : σ.2.1 w = 10) {Y Z : List Nat} (hL : GRV (vI 10 σ w I) (vR 10 σ w ri) (vL 10 σ w rj) A) (hk : KC Y σ I I1) (hX : 32 ∈ cfl ∧ 32 ∉ Y) (hr : KR Z σ tg ri r1) (hY : 33 ∈ rtl ∧ 1033 ∉ Z) : GRV (vI 10 σ1 w I1) (vR 10 σ1 w r1) (vL 10 σ1 w rj) A := by
  have hV := vt_10 hSH hw kw
  refine GRV_cg hL ?_ (fun j _ => ?_) (fun j _ => ?_) rfl (fun _ _ _ _ => rfl)
  · unfold vI
    rw [if_pos (by decide +kernel), if_pos (by decide +kernel), vo_ex h hSH hw kw _ (by decide +kernel)]
    exact hk 32 hX.1 hX.2 _ (hV.2.1 _ (by decide +kernel)).1
  · unfold vR
    rw [if_pos (by decide +kernel), if_pos (by decide +kernel), vrow_ex h hSH hw kw 33 (by decide +kernel), hr 33 hY.1 hY.2 _ (hV.2.2 33 (by decide +kernel)).2.1 (hV.2.2 33 (by decide +kernel)).1]
  · unfold vL
    rw [if_pos (by decide +kernel), if_pos (by decide +kernel), vrow_ex h hSH hw kw 34 (by decide +kernel)]
end RLL
/-! the start -/
theorem vr_row {τ : pq_S} {that a t : Nat} {s : Nat → Nat → Int32} (ht : t = 384 ∨ t = 385) (hR : τ.2.2.1 t that = some a) : vR 12 τ that s t = s a := by
  rw [vr_a ht]
  rcases ht with e | e <;> subst e <;> exact congrArg s (kd_e hR).symm
theorem rl_0 {σ : pq_S} {tg : Nat → Nat} {I ri : Nat → Nat → Int32} {rq : Nat → Nat → Option Nat} {w : Nat} {A : Nat → Int32} (hD : DN σ tg I ri rq) (hP : PXa σ I ri) (hw : w ∈ σ.1) (kw : σ.2.1 w = 10) (hz : ∀ j, zn j ∈ zrl → A j = 0) (hT : TBK A 12) : RSL (vI 10 σ w I) (vR 10 σ w ri) A := by
  have hV := vt_10 hD.1 hw kw
  have z0 : (0 : Int32).toInt = 0 := rfl
  have zc : (0 : Int32).toNatClampNeg = 0 := by decide +kernel
  have vi : ∀ f, vcl 10 (f / 32) = true → vI 10 σ w I f = I f (vo σ (f / 32) w) := fun f hc => by
    unfold vI
    exact if_pos hc
  have vr : ∀ t, vok 10 t = true → vR 10 σ w ri t = ri (vrow σ t w) := fun t hc => by
    unfold vR
    exact if_pos hc
  have i0 : ∀ f, f ∈ [64, 65, 224, 320] → vI 10 σ w I f = 0 := fun f hf => by
    have hc := (by decide +kernel : ∀ f, f ∈ [64, 65, 224, 320] → vcl 10 (f / 32) = true ∧ f ∈ cfz) f hf
    rw [vi f hc.1]
    exact hD.2.1.2.2.2.1 f hc.2 _
  have r0 : ∀ t, t ∈ [69, 70, 73, 74, 75, 229] → ∀ j, vR 10 σ w ri t j = 0 := fun t ht j => by
    have hc := (by decide +kernel : ∀ t, t ∈ [69, 70, 73, 74, 75, 229] → vok 10 t = true ∧ t ∈ zt0) t ht
    rw [vr t hc.1]
    exact hD.2.1.2.2.2.2 _ (by rw [(hV.2.2 t hc.1).1]; exact hc.2) j
  have v7 := hV.2.1 7 (by decide +kernel)
  have v2 := hV.2.1 2 (by decide +kernel)
  obtain ⟨⟨j1, j2, j3⟩, q230, q231, q232⟩ := (hP _ v7.1).2.1 v7.2
  have q79 := (hP _ v2.1).1 v2.2
  have w230 : ∀ j, j < 12 → vR 10 σ w ri 230 j = 500 := fun j hj => by rw [vr 230 (by decide +kernel)]; exact q230 _ (hV.2.2 230 (by decide +kernel)).2.2 j hj
  have w231 : ∀ j, j < 12 → vR 10 σ w ri 231 j = 25 := fun j hj => by rw [vr 231 (by decide +kernel)]; exact q231 _ (hV.2.2 231 (by decide +kernel)).2.2 j hj
  have w232 : ∀ j, j < 12 → vR 10 σ w ri 232 j = 5 := fun j hj => by rw [vr 232 (by decide +kernel)]; exact q232 _ (hV.2.2 232 (by decide +kernel)).2.2 j hj
  have w79 : ∀ j, j < 40 → vR 10 σ w ri 79 j = -1 := fun j hj => by rw [vr 79 (by decide +kernel)]; exact q79 _ (hV.2.2 79 (by decide +kernel)).2.2 j hj
  have ac : ∀ c k, c < 40 → k ∈ [0, 1, 4, 5, 6] → A (100 + 16 * c + k) = 0 := fun c k hc hk => hz _ (by
    have hk2 := (by decide +kernel : ∀ k, k ∈ [0, 1, 4, 5, 6] → k < 16 ∧ 300 + k ∈ zrl) k hk
    rw [zn_c hc hk2.1]
    exact hk2.2)
  refine ⟨⟨?_, ?_, ?_⟩, ?_, ⟨?_, ?_, ?_, ?_⟩, ?_, ⟨fun j hj => ?_, ?_, ?_, ?_⟩, fun c hc => ?_, ?_, fun j h1 h2 => ?_⟩
  · rw [i0 320 (by decide +kernel), z0]; exact ⟨by decide +kernel, by decide +kernel⟩
  · rw [i0 65 (by decide +kernel), z0]; exact ⟨by decide +kernel, by decide +kernel⟩
  · rw [i0 224 (by decide +kernel), z0]; exact ⟨by decide +kernel, by decide +kernel⟩
  · show (0 ≤ (A 1).toInt ∧ (A 1).toInt ≤ 5) ∧ (0 ≤ (A 5).toInt ∧ (A 5).toInt ≤ 40) ∧ (A 4).toInt ≤ 5
    rw [hz 1 (by decide +kernel), hz 5 (by decide +kernel), hz 4 (by decide +kernel), z0]
    exact ⟨⟨by decide +kernel, by decide +kernel⟩, ⟨by decide +kernel, by decide +kernel⟩, by decide +kernel⟩
  · rw [i0 320 (by decide +kernel), hz 0 (by decide +kernel)]
  · rw [i0 64 (by decide +kernel), hz 1 (by decide +kernel)]
  · rw [i0 65 (by decide +kernel), hz 2 (by decide +kernel)]
  · rw [i0 224 (by decide +kernel), hz 3 (by decide +kernel)]
  · show LVR _ _ _ _ _ _ _ _ _ _
    rw [i0 224 (by decide +kernel), zc]
    intro k hk
    exact absurd hk (Nat.not_lt_zero k)
  · have t := hT.2 j hj
    refine ⟨?_, ?_, ?_, ?_⟩
    · rw [r0 229 (by decide +kernel) j, hz _ (by rw [zn_tb hj (by decide +kernel)]; decide)]
    · rw [w230 j hj, t.1]
    · rw [w231 j hj, t.2.1]
    · rw [w232 j hj, t.2.2]
  · rw [vi 234 (by decide +kernel), hT.1.1]; exact j1
  · rw [vi 235 (by decide +kernel), hT.1.2.1]; exact j2
  · rw [vi 236 (by decide +kernel), hT.1.2.2]; exact j3
  · have x0 := ac c 0 hc (by decide +kernel)
    rw [Nat.add_zero] at x0
    rw [x0, ac c 1 hc (by decide +kernel), ac c 4 hc (by decide +kernel), ac c 5 hc (by decide +kernel), ac c 6 hc (by decide +kernel), r0 69 (by decide +kernel) c, r0 70 (by decide +kernel) c, r0 73 (by decide +kernel) c, r0 74 (by decide +kernel) c, r0 75 (by decide +kernel) c, z0]
    exact ⟨rfl, rfl, rfl, rfl, rfl, by decide +kernel⟩
  · rw [i0 65 (by decide +kernel), zc]
    intro c hc
    exact absurd hc (Nat.not_lt_zero c)
  · exact w79 j h2
theorem grv_0 {σ : pq_S} {tg : Nat → Nat} {I ri : Nat → Nat → Int32} {rq : Nat → Nat → Option Nat} {w : Nat} {A : Nat → Int32} {L : Nat → Nat → Int64} (hD : DN σ tg I ri rq) (hz : ∀ j, zn j ∈ zrl → A j = 0) : GRV (vI 10 σ w I) (vR 10 σ w ri) L A := by
  have z0 : (0 : Int32).toInt = 0 := rfl
  have zc : (0 : Int32).toNatClampNeg = 0 := by decide +kernel
  have h10 := hz 10 (by decide +kernel)
  refine ⟨?_, by rw [h10, z0]; exact ⟨by decide +kernel, by decide +kernel⟩, fun g hg => ?_, fun g _ hg => ⟨hz _ ?_, hz _ ?_⟩⟩
  · unfold vI
    rw [if_pos (by decide +kernel), h10]
    exact hD.2.1.2.2.2.1 32 (by decide +kernel) _
  · rw [h10, zc] at hg
    exact absurd hg (Nat.not_lt_zero g)
  · rw [zn_gr hg (by decide +kernel)]; decide
  · rw [zn_gr hg (by decide +kernel)]; decide
theorem months_CV {I : Nat → Int32} {J : Nat → Int64} {ri : Nat → Nat → Int32} {rj : Nat → Nat → Int64} {rq : Nat → Nat → Option Nat} {U : Nat → Int32} {V : Nat → Int64} {si : Nat → Nat → Int32} {sj : Nat → Nat → Int64} {sq : Nat → Nat → Option Nat} {tI : Nat → Nat → Int32} {tR : Nat → Nat → Nat → Int32} {a0 a1 : Int32} (h : RSL I ri (si 384)) : CV (g_X11_months tI tR a0 a1 I J ri rj rq) (g_X12_months a0 a1 U V si sj sq) := by
  obtain ⟨v, I1, J1, r1, l1, U1, s1, m1, e1, e2, h1, -⟩ := months_v (tI := tI) (tR := tR) (a0 := a0) (a1 := a1) (J := J) (rj := rj) (rq := rq) (U := U) (V := V) (sj := sj) (sq := sq) h
  rw [e1, e2]
  exact ⟨rfl, h1⟩
/-! ===== who is dead: what of the two sides' calls keeps it alike ===== -/
section DFL
variable {σ σ1 τ : pq_S} {tg tg1 tg2 : Nat → Nat} {X X2 : List Nat} {w that : Nat}
variable {I I1 ri r1 : Nat → Nat → Int32} {J J1 : Nat → Nat → Int64} {rj l1 : Nat → Nat → Int64} {rq q1 : Nat → Nat → Option Nat}
variable {I2 I3 si s1 : Nat → Nat → Int32} {q2 : Nat → Nat → Option Nat} {A VI : Nat → Int32} {VR : Nat → Nat → Int32}
theorem df_cl (h : RDF (vI 10 σ w I) (vR 10 σ w ri) A) (hg : GX X tg σ I ri rj I1 r1 l1 q1) (hV : VT 10 σ tg w) (hf : 0 ∈ cfl ∧ 0 ∉ X) (ht : 5 ∈ rtl ∧ 1005 ∉ X) : RDF (vI 10 σ w I1) (vR 10 σ w r1) A := RDF_cg h (by
  unfold vI
  rw [hg.2.1 0 hf.1 hf.2]) (fun p _ => by
  unfold vR
  rw [if_pos (by decide +kernel), if_pos (by decide +kernel), hg.2.2.1 5 ht.1 ht.2 _ (hV.2.2 5 (by decide +kernel)).1]) rfl (fun _ _ => rfl)
theorem df_fr {M : Nat} (h : RDF (vI 10 σ w I) (vR 10 σ w ri) A) (hF : FR 10 tg σ M (I, J, ri, rj, rq) (I1, J1, r1, l1, q1)) (hA : AP 10 tg σ M w) : RDF (vI 10 σ w I1) (vR 10 σ w r1) A := by
  rw [fr_cI hF hA, fr_cR hF hA]
  exact h
theorem zn_pl {p : Nat} (hp : p < 40) : zn (740 + 12 * p + 3) = 403 := zn_PERSON rfl hp (by decide +kernel)
theorem df_rf (h : RDF VI VR (vR 12 τ that si 384)) (hg : GM X tg2 τ I2 si I3 s1 q2) (hV : VT 12 τ tg2 that) (hz : ∀ z, z ∈ [5, 403] → z ∈ ztl ∧ 1000 + z ∉ X) : RDF VI VR (vR 12 τ that s1 384) := by
  have one : ∀ i, zn i ∈ [5, 403] → vR 12 τ that s1 384 i = vR 12 τ that si 384 i := fun i hi => by
    rw [vr_a (Or.inl rfl), vr_a (Or.inl rfl)]
    exact hg.2.2.1 _ (vr_t hV (Or.inl rfl)) i (hz _ hi).1 (hz _ hi).2
  exact RDF_cg h rfl (fun _ _ => rfl) (one 5 (by decide +kernel)) (fun p hp => one _ (by rw [zn_pl hp]; decide))
theorem df_kc {t u : Nat} (h : RDF VI VR (vR 12 τ that si u)) (hk : ∀ i, i < 12720 → vR 12 τ that s1 t i = vR 12 τ that si u i) : RDF VI VR (vR 12 τ that s1 t) := RDF_cg h rfl (fun _ _ => rfl) (hk 5 (by decide +kernel)) (fun p hp => hk _ (by omega))
theorem df_im (h : RDF VI VR (vR 12 τ that si 385)) (hg : GM X tg2 τ I2 si I3 s1 q2) (hV : VT 12 τ tg2 that) (hX : 2000 ∉ X) : RDF VI VR (vR 12 τ that s1 385) := by
  rw [show vR 12 τ that s1 385 = vR 12 τ that si 385 by rw [vr_a (Or.inr rfl), vr_a (Or.inr rfl)]; exact hg.2.2.2 385 2000 (by decide +kernel) hX _ (vr_t hV (Or.inr rfl))]
  exact h
def QD (nI : Nat → Int32) (nR : Nat → Nat → Int32) (b : vM) : Prop := b.1 0 = nI 0 ∧ ∀ p, p < 40 → b.2.2.1 5 p = nR 5 p
theorem df_cp {t u : Nat} {nI I5 : Nat → Int32} {nR r5 : Nat → Nat → Int32} {l5 : Nat → Nat → Int64} {J5 : Nat → Int64} {q5 : Nat → Nat → Option Nat} (h : RDF nI nR (vR 12 τ that si u)) (q : QD nI nR (I5, J5, r5, l5, q5)) (hk : ∀ i, i < 12720 → vR 12 τ that s1 t i = vR 12 τ that si u i) : RDF I5 r5 (vR 12 τ that s1 t) := RDF_cg h q.1 q.2 (hk 5 (by decide +kernel)) (fun p hp => hk _ (by omega))
theorem dv_st {p q : Int32 × vM} {a b : Int32} {x1 y1 : Nat → Int32} {x2 y2 : Nat → Int64} {x3 y3 : Nat → Nat → Int32} {x4 y4 : Nat → Nat → Int64} {x5 y5 : Nat → Nat → Option Nat} (h : DV p q) (e1 : p = (a, x1, x2, x3, x4, x5)) (e2 : q = (b, y1, y2, y3, y4, y5)) : RDF x1 x3 (y3 384) := by
  rw [e1, e2] at h
  exact h
theorem df_ex (h : EX σ σ1 tg tg1) (hSH : SH σ tg) (hw : w ∈ σ.1) (kw : σ.2.1 w = 10) {Y Z : List Nat} (hL : RDF (vI 10 σ w I) (vR 10 σ w ri) A) (hk : KC Y σ I I1) (hX : 0 ∈ cfl ∧ 0 ∉ Y) (hr : KR Z σ tg ri r1) (hY : 5 ∈ rtl ∧ 1005 ∉ Z) : RDF (vI 10 σ1 w I1) (vR 10 σ1 w r1) A := by
  have hV := vt_10 hSH hw kw
  refine RDF_cg hL ?_ (fun j _ => ?_) rfl (fun _ _ => rfl)
  · unfold vI
    rw [if_pos (by decide +kernel), if_pos (by decide +kernel), vo_ex h hSH hw kw _ (by decide +kernel)]
    exact hk 0 hX.1 hX.2 _ (hV.2.1 _ (by decide +kernel)).1
  · unfold vR
    rw [if_pos (by decide +kernel), if_pos (by decide +kernel), vrow_ex h hSH hw kw 5 (by decide +kernel), hr 5 hY.1 hY.2 _ (hV.2.2 5 (by decide +kernel)).2.1 (hV.2.2 5 (by decide +kernel)).1]
/-- the LOTS of the class, and the lots that groups wait for -/
theorem d10_of (h : GS tg σ I ri rq) : 0 ≤ (vI 10 σ w I 10).toInt ∧ (vI 10 σ w I 10).toInt ≤ 5 := by
  unfold vI
  rw [if_pos (by decide +kernel)]
  exact h.1 10 _
theorem d15_of (h : GS tg σ I ri rq) (hV : VT 10 σ tg w) : lot15 (vR 10 σ w ri) := fun k => by
  have x := h.2.1 (vrow σ 15 w) k
  rw [(hV.2.2 15 (by decide +kernel)).1] at x
  unfold vR
  rw [if_pos (by decide +kernel)]
  exact x
theorem d4_of (h : GT tg2 I2 si) (hV : VT 12 τ tg2 that) : 0 ≤ (vR 12 τ that si 384 4).toInt := by
  have hz : zt (tg2 (vrow τ 384 that)) = true := by
    rw [vr_t hV (Or.inl rfl)]
    decide
  have b4 := GM.z0 h hz (i := 4) (k := 4) (by decide +kernel) rfl
  rw [vr_a (Or.inl rfl)]
  exact b4.1
end DFL
section CPD
variable {nI : Nat → Int32} {nJ : Nat → Int64} {nR : Nat → Nat → Int32} {nL : Nat → Nat → Int64} {nQ : Nat → Nat → Option Nat}
variable {I : Nat → Int32} {J : Nat → Int64} {ri : Nat → Nat → Int32} {rj : Nat → Nat → Int64} {rq : Nat → Nat → Option Nat}
theorem cp0d : QD nI nR (g_X0_copyFrom nI nR I J ri rj rq) := by
  have z0 : (0 : Int32).toNatClampNeg = 0 := by decide +kernel
  have z40 : (40 : Int32).toNatClampNeg = 40 := by decide +kernel
  rw [g_X0_copyFrom_e]
  simp only [↓ap1_n, z0, z40]
  refine ⟨?_, fun p hp => ?_⟩
  · show va_up (va_up I 0 (nI 0)) 10 (nI 10) 0 = nI 0
    rw [va_up_ne _ _ (show (0 : Nat) ≠ 10 by decide +kernel), va_up_self]
  · dsimp only
    rw [va_up_ne _ _ (show (5 : Nat) ≠ 11 by decide +kernel), va_up_ne _ _ (show (5 : Nat) ≠ 9 by decide +kernel), va_up_ne _ _ (show (5 : Nat) ≠ 8 by decide +kernel), va_up_ne _ _ (show (5 : Nat) ≠ 7 by decide +kernel), va_up_ne _ _ (show (5 : Nat) ≠ 6 by decide +kernel), va_up_self]
    exact cpy_v hp
theorem copyFrom_d : QD nI nR (g_X10_copyFrom nI nJ nR nL nQ I J ri rj rq) := by
  rw [g_X10_copyFrom_e]
  simp only [↓ap1_n]
  refine bV_all (fun _ _ _ _ _ => ?_)
  refine bV_all (fun _ _ _ _ _ => ?_)
  refine bV_to (P := QD nI nR) (Q := QD nI nR) cp0d (fun Ia _ ra _ _ h1 => ?_)
  refine bV_of (P := QD nI nR) g_X3_copyFrom_f (fun Ib _ rb _ _ h3 => ?_)
  refine bV_of (P := QD nI nR) g_X1_copyFrom_f (fun Ic _ rc _ _ h4 => ?_)
  have y3 : Ib 0 = Ia 0 := h3.1 0 (by decide +kernel)
  have y4 : Ic 0 = Ib 0 := h4.1 0 (by decide +kernel)
  have x3 : rb 5 = ra 5 := h3.2.2.1 5 (by decide +kernel)
  have x4 : rc 5 = rb 5 := h4.2.2.1 5 (by decide +kernel)
  exact ⟨(y4.trans y3).trans h1.1, fun p hp => by
    show rc 5 p = nR 5 p
    rw [x4, x3]
    exact h1.2 p hp⟩
theorem image_d {r : Int32} {I1 : Nat → Int32} {J1 : Nat → Int64} {r1 : Nat → Nat → Int32} {l1 : Nat → Nat → Int64} {q1 : Nat → Nat → Option Nat} (e : g_X11_image nI nJ nR nL nQ I J ri rj rq = (r, I1, J1, r1, l1, q1)) : QD nI nR (I1, J1, r1, l1, q1) := by
  have h : QD nI nR (g_X10_copyFrom nI nJ nR nL nQ I J ri rj rq) := copyFrom_d
  rw [g_X11_image_e] at e
  generalize g_X10_copyFrom nI nJ nR nL nQ I J ri rj rq = p at h e
  obtain ⟨a, b, c, d, f⟩ := p
  have e2 : ((nI 320, a, b, c, d, f) : Int32 × vM) = (r, I1, J1, r1, l1, q1) := e
  exact (Prod.mk.inj e2).2 ▸ h
theorem back_d {r : Int32} {I1 : Nat → Int32} {J1 : Nat → Int64} {r1 : Nat → Nat → Int32} {l1 : Nat → Nat → Int64} {q1 : Nat → Nat → Option Nat} (e : g_X11_back nI nJ nR nL nQ I J ri rj rq = (r, I1, J1, r1, l1, q1)) : QD nI nR (I1, J1, r1, l1, q1) := by
  have h : QD nI nR (g_X10_copyFrom nI nJ nR nL nQ I J ri rj rq) := copyFrom_d
  rw [g_X11_back_e] at e
  generalize g_X10_copyFrom nI nJ nR nL nQ I J ri rj rq = p at h e
  obtain ⟨a, b, c, d, f⟩ := p
  have e2 : ((a 320, a, b, c, d, f) : Int32 × vM) = (r, I1, J1, r1, l1, q1) := e
  exact (Prod.mk.inj e2).2 ▸ h
end CPD
/-- at the start nobody is there -/
theorem df_0 {σ : pq_S} {tg : Nat → Nat} {I ri : Nat → Nat → Int32} {rq : Nat → Nat → Option Nat} {w : Nat} {A : Nat → Int32} (hD : DN σ tg I ri rq) (hw : w ∈ σ.1) (kw : σ.2.1 w = 10) (hz : ∀ j, zn j ∈ zrl → A j = 0) : RDF (vI 10 σ w I) (vR 10 σ w ri) A := by
  have hV := vt_10 hD.1 hw kw
  refine ⟨?_, fun p hp => ?_⟩
  · unfold vI
    rw [if_pos (by decide +kernel), hz 5 (by decide +kernel)]
    exact hD.2.1.2.2.2.1 0 (by decide +kernel) _
  · have r5 : vR 10 σ w ri 5 p = 0 := by
      unfold vR
      rw [if_pos (by decide +kernel)]
      exact hD.2.1.2.2.2.2 _ (by rw [(hV.2.2 5 (by decide +kernel)).1]; decide) p
    rw [r5, hz _ (by rw [zn_pl hp]; decide)]
/-! ===== the tape and the counts of THE LAW: what keeps them alike ===== -/
section PFL
variable {σ σ1 τ : pq_S} {tg tg1 tg2 : Nat → Nat} {X X2 : List Nat} {w that rd M this : Nat}
variable {I I1 I2 I3 ri r1 si s1 : Nat → Nat → Int32} {J J1 : Nat → Nat → Int64} {rj l1 : Nat → Nat → Int64} {rq q1 q2 : Nat → Nat → Option Nat}
variable {A B VI VU : Nat → Int32} {VR VS : Nat → Nat → Int32}
theorem vI_at {k : Nat} {σ : pq_S} {w : Nat} {I : Nat → Nat → Int32} {f : Nat} (hc : vcl k (f / 32) = true) : vI k σ w I f = I f (vo σ (f / 32) w) := if_pos hc
theorem vR_at {k : Nat} {σ : pq_S} {w : Nat} {r : Nat → Nat → Int32} {t : Nat} (hc : vok k t = true) : vR k σ w r t = r (vrow σ t w) := if_pos hc
/-- a call of the class on a World leaves the Reader -/
theorem rd_fr {U : Nat → Int32} {s : Nat → Nat → Int32} (h : RDR (vI 4 σ rd I) (vR 4 σ rd ri) U s) (hF : FR 10 tg σ M (I, J, ri, rj, rq) (I1, J1, r1, l1, q1)) (hM : VT 10 σ tg M) (hV : VT 4 σ tg rd) : RDR (vI 4 σ rd I1) (vR 4 σ rd r1) U s := by
  refine RDR_cg h ?_ ?_ ?_ ?_ rfl rfl rfl rfl
  · rw [vI_at (by decide +kernel), vI_at (by decide +kernel)]
    exact hF.1 193 _ (by decide +kernel) (fun hc => absurd hc (by decide +kernel))
  · rw [vI_at (by decide +kernel), vI_at (by decide +kernel)]
    exact hF.1 129 _ (by decide +kernel) (fun hc => absurd hc (by decide +kernel))
  · rw [vI_at (by decide +kernel), vI_at (by decide +kernel)]
    exact hF.1 130 _ (by decide +kernel) (fun hc => absurd hc (by decide +kernel))
  · rw [vR_at (by decide +kernel), vR_at (by decide +kernel)]
    have ht := (hV.2.2 192 (by decide +kernel)).1
    refine hF.2.2.1 _ (by rw [ht]; decide) (fun t hv e => ?_)
    have h2 := (hM.2.2 t hv).1
    rw [← e, ht] at h2
    rw [← h2] at hv
    exact absurd hv (by decide +kernel)
/-- a call of the reference that leaves the tape -/
theorem rd_rf (h : RDR VI VR (vI 12 τ that I2) (vR 12 τ that si)) (hg : GM X tg2 τ I2 si I3 s1 q2) (hV : VT 12 τ tg2 that) (hX : 388 ∉ X ∧ 389 ∉ X ∧ 390 ∉ X ∧ 2003 ∉ X) : RDR VI VR (vI 12 τ that I3) (vR 12 τ that s1) := by
  refine RDR_cg h rfl rfl rfl rfl ?_ ?_ ?_ ?_
  · rw [vI_at (by decide +kernel), vI_at (by decide +kernel), hg.2.1 388 (by decide +kernel) hX.1]
  · rw [vI_at (by decide +kernel), vI_at (by decide +kernel), hg.2.1 389 (by decide +kernel) hX.2.1]
  · rw [vI_at (by decide +kernel), vI_at (by decide +kernel), hg.2.1 390 (by decide +kernel) hX.2.2.1]
  · rw [vR_at (by decide +kernel), vR_at (by decide +kernel)]
    exact hg.2.2.2 387 2003 (by decide +kernel) hX.2.2.2 _ (hV.2.2 387 (by decide +kernel)).1
theorem tc_cl (h : TCR (vI 10 σ w I) A) (hg : GX X tg σ I ri rj I1 r1 l1 q1) (hX : (96 ∈ cfl ∧ 96 ∉ X) ∧ (98 ∈ cfl ∧ 98 ∉ X)) : TCR (vI 10 σ w I1) A := by
  refine TCR_cg h ?_ ?_ rfl rfl
  · rw [vI_at (by decide +kernel), vI_at (by decide +kernel), hg.2.1 96 hX.1.1 hX.1.2]
  · rw [vI_at (by decide +kernel), vI_at (by decide +kernel), hg.2.1 98 hX.2.1 hX.2.2]
theorem tc_fr (h : TCR (vI 10 σ w I) A) (hF : FR 10 tg σ M (I, J, ri, rj, rq) (I1, J1, r1, l1, q1)) (hA : AP 10 tg σ M w) : TCR (vI 10 σ w I1) A := by
  rw [fr_cI hF hA]
  exact h
theorem tc_rf (h : TCR VI (vR 12 τ that si 384)) (hg : GM X tg2 τ I2 si I3 s1 q2) (hV : VT 12 τ tg2 that) (hz : ∀ z, z ∈ [6, 7] → z ∈ ztl ∧ 1000 + z ∉ X) : TCR VI (vR 12 τ that s1 384) := by
  have one : ∀ i, zn i ∈ [6, 7] → vR 12 τ that s1 384 i = vR 12 τ that si 384 i := fun i hi => by
    rw [vr_a (Or.inl rfl), vr_a (Or.inl rfl)]
    exact hg.2.2.1 _ (vr_t hV (Or.inl rfl)) i (hz _ hi).1 (hz _ hi).2
  exact TCR_cg h rfl rfl (one 6 (by decide +kernel)) (one 7 (by decide +kernel))
theorem tc_kc {t u : Nat} (h : TCR VI (vR 12 τ that si u)) (hk : ∀ i, i < 12720 → vR 12 τ that s1 t i = vR 12 τ that si u i) : TCR VI (vR 12 τ that s1 t) := TCR_cg h rfl rfl (hk 6 (by decide +kernel)) (hk 7 (by decide +kernel))
theorem tc_im (h : TCR VI (vR 12 τ that si 385)) (hg : GM X tg2 τ I2 si I3 s1 q2) (hV : VT 12 τ tg2 that) (hX : 2000 ∉ X) : TCR VI (vR 12 τ that s1 385) := by
  rw [show vR 12 τ that s1 385 = vR 12 τ that si 385 by rw [vr_a (Or.inr rfl), vr_a (Or.inr rfl)]; exact hg.2.2.2 385 2000 (by decide +kernel) hX _ (vr_t hV (Or.inr rfl))]
  exact h
def QT (nI : Nat → Int32) (b : vM) : Prop := b.1 96 = nI 96 ∧ b.1 98 = nI 98
theorem tc_cp {t u : Nat} {nI I5 : Nat → Int32} {r5 : Nat → Nat → Int32} {l5 : Nat → Nat → Int64} {J5 : Nat → Int64} {q5 : Nat → Nat → Option Nat} (h : TCR nI (vR 12 τ that si u)) (q : QT nI (I5, J5, r5, l5, q5)) (hk : ∀ i, i < 12720 → vR 12 τ that s1 t i = vR 12 τ that si u i) : TCR I5 (vR 12 τ that s1 t) := TCR_cg h q.1 q.2 (hk 6 (by decide +kernel)) (hk 7 (by decide +kernel))
theorem fv_st {p q : Int32 × vM} {a b : Int32} {x1 y1 : Nat → Int32} {x2 y2 : Nat → Int64} {x3 y3 : Nat → Nat → Int32} {x4 y4 : Nat → Nat → Int64} {x5 y5 : Nat → Nat → Option Nat} (h : FV p q) (e1 : p = (a, x1, x2, x3, x4, x5)) (e2 : q = (b, y1, y2, y3, y4, y5)) : a = b ∧ RDR x1 x3 y1 y3 := by
  rw [e1, e2] at h
  exact h
theorem tv_st {p q : Int32 × vM} {a b : Int32} {x1 y1 : Nat → Int32} {x2 y2 : Nat → Int64} {x3 y3 : Nat → Nat → Int32} {x4 y4 : Nat → Nat → Int64} {x5 y5 : Nat → Nat → Option Nat} (h : TV p q) (e1 : p = (a, x1, x2, x3, x4, x5)) (e2 : q = (b, y1, y2, y3, y4, y5)) : a = b ∧ TCR x1 (y3 384) := by
  rw [e1, e2] at h
  exact h
/-- the counts of TEXTS and FORCES, of the pieces of the reference that its bounds hold -/
theorem c67_of (h : GT tg2 I2 si) (hV : VT 12 τ tg2 that) : (0 ≤ (vR 12 τ that si 384 6).toInt ∧ (vR 12 τ that si 384 6).toInt ≤ 10) ∧ (0 ≤ (vR 12 τ that si 384 7).toInt ∧ (vR 12 τ that si 384 7).toInt ≤ 30) := by
  have hz : zt (tg2 (vrow τ 384 that)) = true := by
    rw [vr_t hV (Or.inl rfl)]
    decide
  have b6 := GM.z0 h hz (i := 6) (k := 6) (by decide +kernel) rfl
  have b7 := GM.z0 h hz (i := 7) (k := 7) (by decide +kernel) rfl
  rw [vr_a (Or.inl rfl)]
  exact ⟨⟨b6.1, b6.2⟩, b7.1, b7.2⟩
theorem p401_of (h : GT tg2 I2 si) : 0 ≤ (vI 12 τ that I2 401).toInt := by
  rw [vI_at (by decide +kernel)]
  exact (h.1 401 _).1
/-- the other World's law, and its numbers, behind text() -/
theorem law_ne (hA : AP 10 tg σ w M) : vo σ 3 M ≠ vo σ 3 w := hA.2.2.1 3 (by decide +kernel)
/-- a TEXT is read, on both sides -/
theorem text_st {nw kp : Nat} {r r2 : Int32} {U3 : Nat → Int32} {V3 : Nat → Int64} {s3 : Nat → Nat → Int32} {m3 : Nat → Nat → Int64} {n3 : Nat → Nat → Option Nat} {V2 : Nat → Int64} {m2 : Nat → Nat → Int64} {n2 : Nat → Nat → Option Nat} (hSH : SH σ tg) (hSH1 : SH σ1 tg1) (hex : EX σ σ1 tg tg1) (hnw : σ.2.2.1 352 this = some nw ∧ nw ∈ σ.1 ∧ σ.2.1 nw = 10) (hkp : kp ∈ σ.1 ∧ σ.2.1 kp = 10) (hrd : σ.2.2.1 356 this = some rd ∧ rd ∈ σ.1 ∧ σ.2.1 rd = 4) (hA : AP 10 tg σ nw kp) (hX : TXF σ σ1 this I ri r I1 J1 r1 rj rq) {Y : List Nat} (hkc : KC Y σ I I1) (h98 : 98 ∈ cfl ∧ 98 ∉ Y) (hR : RDR (vI 4 σ rd I) (vR 4 σ rd ri) VU VS) (hTN : TCR (vI 10 σ nw I) (VS 384)) (hTK : TCR (vI 10 σ kp I) B) (h6 : 0 ≤ (VS 384 6).toInt ∧ (VS 384 6).toInt ≤ 10) (h401 : 0 ≤ (VU 401).toInt) (hF : g_X12_text VU V2 VS m2 n2 = (r2, U3, V3, s3, m3, n3)) (hm1 : r2 = -1 → s3 384 6 = VS 384 6) (h7 : s3 384 7 = VS 384 7) : r = r2 ∧ RDR (vI 4 σ1 rd I1) (vR 4 σ1 rd r1) U3 s3 ∧ TCR (vI 10 σ1 nw I1) (s3 384) ∧ TCR (vI 10 σ1 kp I1) B := by
  obtain ⟨nw2, lw, rd2, sc, ⟨g1, g2, g3, g4⟩, hX⟩ := hX
  have d1 : nw2 = nw := Option.some.inj (g1.symm.trans hnw.1)
  have d2 : rd2 = rd := Option.some.inj (g3.symm.trans hrd.1)
  rw [d1] at g2
  rw [d2] at g4 hX
  have vn := vt_10 hSH hnw.2.1 hnw.2.2
  have vk := vt_10 hSH hkp.1 hkp.2
  have elw : lw = vo σ 3 nw := kd_e g2
  have esc : sc = vo σ 6 rd := kd_e g4
  have ln := vn.2.1 3 (by decide +kernel)
  have lk := vk.2.1 3 (by decide +kernel)
  have l96 : vI 10 σ nw I 96 = I 96 lw := by
    have e : vI 10 σ nw I 96 = I 96 (vo σ 3 nw) := vI_at (by decide +kernel)
    rw [elw]
    exact e
  have b96 : vI 10 σ kp I 96 = I 96 (vo σ 3 kp) := vI_at (by decide +kernel)
  have w3n : vo σ1 3 nw = lw := by rw [vo_ex hex hSH hnw.2.1 hnw.2.2 3 (by decide +kernel), elw]
  have w3k : vo σ1 3 kp = vo σ 3 kp := vo_ex hex hSH hkp.1 hkp.2 3 (by decide +kernel)
  have nk : vo σ 3 kp ≠ lw := by rw [elw]; exact law_ne hA
  have k98 : ∀ b, b ∈ σ.1 → I1 98 b = I 98 b := hkc 98 h98.1 h98.2
  have a98 : vI 10 σ1 nw I1 98 = vI 10 σ nw I 98 := by
    rw [vI_at (by decide +kernel), vI_at (by decide +kernel)]
    show I1 98 (vo σ1 3 nw) = I 98 (vo σ 3 nw)
    rw [w3n, elw]; exact k98 _ ln.1
  have b98 : vI 10 σ1 kp I1 98 = vI 10 σ kp I 98 := by
    rw [vI_at (by decide +kernel), vI_at (by decide +kernel)]
    show I1 98 (vo σ1 3 kp) = I 98 (vo σ 3 kp)
    rw [w3k]; exact k98 _ lk.1
  have t96 : I 96 lw = VS 384 6 := l96.symm.trans hTN.1
  rcases hX with ⟨c10, er, eσ, eI, er1⟩ | ⟨c9, Iz, ⟨I0, J0, r0, l0, q0, x129, x130, x256, x193, x192, xF⟩, z96, hz⟩
  · rw [t96] at c10
    rw [text_10 (by omega)] at hF
    obtain ⟨f1, f2⟩ := Prod.mk.inj hF
    obtain ⟨f2, f3⟩ := Prod.mk.inj f2
    obtain ⟨f3, f4⟩ := Prod.mk.inj f3
    obtain ⟨f4, f5⟩ := Prod.mk.inj f4
    rw [eσ, eI, er1, er, ← f2, ← f4]
    exact ⟨f1, hR, hTN, hTK⟩
  · rw [t96] at c9
    obtain ⟨Jz, rz, U1, V1, s1, y1, y2, y3, y4, y5, y6, y7, y8⟩ := text_v (V := V2) (sj := m2) (sq := n2) hR h401 ⟨h6.1, c9⟩ x129 x130 x256 x193 x192
    rw [xF] at y1
    obtain ⟨p1, p2⟩ := Prod.mk.inj y1
    obtain ⟨_, p3⟩ := Prod.mk.inj p2
    obtain ⟨p3, _⟩ := Prod.mk.inj p3
    rw [y3] at hF
    obtain ⟨f1, f2⟩ := Prod.mk.inj hF
    obtain ⟨f2, f3⟩ := Prod.mk.inj f2
    obtain ⟨f3, f4⟩ := Prod.mk.inj f3
    obtain ⟨f4, f5⟩ := Prod.mk.inj f4
    subst f2 f4
    have z129 : Jz 129 = Iz 129 rd := by rw [← p1, vI_at (by decide +kernel)]; rfl
    have z130 : Jz 130 = Iz 130 rd := by rw [← p1, vI_at (by decide +kernel)]; rfl
    have sc1 : vo σ1 6 rd = sc := by
      show kd σ1 128 rd = sc
      rw [kd_e0 hex hrd.2.1 (by decide +kernel), esc]
      rfl
    have hrow : vR 4 σ1 rd r1 192 = vR 4 σ rd ri 192 := by rw [p3]; exact y2
    rw [z129] at f1 y5 y7
    rw [z130] at y6
    have put : ∀ (K : Nat → Nat → Int32), K 129 rd = Iz 129 rd → K 130 rd = Iz 130 rd → K 193 sc = 0 → RDR (vI 4 σ1 rd K) (vR 4 σ1 rd r1) U1 s1 := fun K e1 e2 e3 => by
      have v193 : vI 4 σ1 rd K 193 = 0 := by
        rw [vI_at (by decide +kernel)]
        show K 193 (vo σ1 6 rd) = 0
        rw [sc1]; exact e3
      have v129 : vI 4 σ1 rd K 129 = Iz 129 rd := by rw [vI_at (by decide +kernel)]; exact e1
      have v130 : vI 4 σ1 rd K 130 = Iz 130 rd := by rw [vI_at (by decide +kernel)]; exact e2
      have k0 : (0 : Int32).toInt = 0 := by decide +kernel
      refine ⟨by rw [v193, k0]; exact ⟨by decide +kernel, by decide +kernel⟩, by rw [v193, y4], ?_, fun j => ?_, by rw [v129, y5], by rw [v130, y6]⟩
      · rw [hrow, y8]; exact hR.2.2.1
      · rw [hrow]; exact hR.2.2.2.1 j
    rcases hz with ⟨c0, er, eI⟩ | ⟨c0, er, eI⟩
    · have f1' : VS 384 6 = r2 := by rw [← f1, if_pos c0]
      refine ⟨er.trans (t96.trans f1'), ?_, ⟨?_, ?_⟩, ⟨?_, ?_⟩⟩
      · rw [eI]
        exact put _ (by rw [pq_uf _ _ _ (show (129 : Nat) ≠ 96 by decide +kernel), pq_uf _ _ _ (show (129 : Nat) ≠ 193 by decide +kernel)]) (by rw [pq_uf _ _ _ (show (130 : Nat) ≠ 96 by decide +kernel), pq_uf _ _ _ (show (130 : Nat) ≠ 193 by decide +kernel)]) (by rw [pq_uf _ _ _ (show (193 : Nat) ≠ 96 by decide +kernel), pq_us])
      · rw [vI_at (by decide +kernel)]
        show I1 96 (vo σ1 3 nw) = s1 384 6
        rw [w3n, eI, pq_us, y7 c0, t96]
      · rw [a98, h7]; exact hTN.2
      · rw [vI_at (by decide +kernel)]
        show I1 96 (vo σ1 3 kp) = B 6
        rw [w3k, eI, pq_ua _ _ _ _ nk, pq_uf _ _ _ (show (96 : Nat) ≠ 193 by decide +kernel), z96 _ lk.1, ← b96]
        exact hTK.1
      · rw [b98]; exact hTK.2
    · have f1' : -1 = r2 := by rw [← f1, if_neg c0]
      refine ⟨er.trans f1', ?_, ⟨?_, ?_⟩, ⟨?_, ?_⟩⟩
      · rw [eI]
        exact put _ (by rw [pq_uf _ _ _ (show (129 : Nat) ≠ 193 by decide +kernel)]) (by rw [pq_uf _ _ _ (show (130 : Nat) ≠ 193 by decide +kernel)]) (by rw [pq_us])
      · rw [vI_at (by decide +kernel)]
        show I1 96 (vo σ1 3 nw) = s1 384 6
        rw [w3n, eI, pq_uf _ _ _ (show (96 : Nat) ≠ 193 by decide +kernel), z96 _ (by rw [elw]; exact ln.1), t96]
        exact (hm1 f1'.symm).symm
      · rw [a98, h7]; exact hTN.2
      · rw [vI_at (by decide +kernel)]
        show I1 96 (vo σ1 3 kp) = B 6
        rw [w3k, eI, pq_uf _ _ _ (show (96 : Nat) ≠ 193 by decide +kernel), z96 _ lk.1, ← b96]
        exact hTK.1
      · rw [b98]; exact hTK.2
theorem rdr_0 {U : Nat → Int32} {s : Nat → Nat → Int32} (hD : DN σ tg I ri rq) (hP : PXa σ I ri) (hL : rd ∈ σ.1) (hK : σ.2.1 rd = 4) (h1 : U 388 = 0) (h2 : U 389 = -1) (h3 : U 390 = -1) (h4 : ∀ j, s 387 j = 0) : RDR (vI 4 σ rd I) (vR 4 σ rd ri) U s := by
  have hV := vt_4 hD.1 hL hK
  obtain ⟨p1, p2⟩ := (hP rd hL).2.2 hK
  have k0 : (0 : Int32).toInt = 0 := by decide +kernel
  have v193 : vI 4 σ rd I 193 = 0 := by
    rw [vI_at (by decide +kernel)]
    exact hD.2.1.2.2.2.1 193 (by decide +kernel) _
  have vr : ∀ j, vR 4 σ rd ri 192 j = 0 := fun j => by
    rw [vR_at (by decide +kernel)]
    exact hD.2.1.2.2.2.2 _ (by rw [(hV.2.2 192 (by decide +kernel)).1]; decide) j
  refine ⟨by rw [v193, k0]; exact ⟨by decide +kernel, by decide +kernel⟩, by rw [v193, h1], funext fun j => by rw [vr j, h4 j], fun j => by rw [vr j, k0]; decide, ?_, ?_⟩
  · rw [vI_at (by decide +kernel), h2]; exact p1
  · rw [vI_at (by decide +kernel), h3]; exact p2
theorem tcr_0 (hD : DN σ tg I ri rq) (hz : ∀ j, zn j ∈ zrl → A j = 0) : TCR (vI 10 σ w I) A := by
  refine ⟨?_, ?_⟩
  · rw [vI_at (by decide +kernel), hz 6 (by decide +kernel)]
    exact hD.2.1.2.2.2.1 96 (by decide +kernel) _
  · rw [vI_at (by decide +kernel), hz 7 (by decide +kernel)]
    exact hD.2.1.2.2.2.1 98 (by decide +kernel) _
end PFL
section CPT
variable {nI : Nat → Int32} {nJ : Nat → Int64} {nR : Nat → Nat → Int32} {nL : Nat → Nat → Int64} {nQ : Nat → Nat → Option Nat}
variable {I : Nat → Int32} {J : Nat → Int64} {ri : Nat → Nat → Int32} {rj : Nat → Nat → Int64} {rq : Nat → Nat → Option Nat}
theorem cp3_L {K : Nat → Int32} : ∀ (n : Nat) (x : Int32) (q : Nat → Nat → Option Nat), 0 ≤ x.toInt → x.toInt ≤ 10 → 10 - x.toInt < (n : Int) → (g_X3_copyFrom_L10 J ri rj nI K nQ nR n x q).1 = va_up K 98 (nI 98) := by
  intro n
  induction n with
  | zero => intro x q h0 h1 h2; exact absurd h2 (by omega)
  | succ n ih =>
    intro x q h0 h1 h2
    have k10 : (10 : Int32).toInt = 10 := by decide +kernel
    rw [g_X3_copyFrom_L10_e]
    by_cases c : (10 : Int32) ≤ x
    · rw [if_pos c]
      try simp only [↓ap1_n]
    · have hx : x.toInt < 10 := by
        have : ¬ (10 : Int32).toInt ≤ x.toInt := fun q => c (Int32.le_iff_toInt_le.mpr q)
        omega
      have hn : (x + Int32.ofInt 1).toInt = x.toInt + 1 := i_add rfl (show (Int32.ofInt 1).toInt = 1 by decide +kernel) (by omega) (by omega)
      rw [if_neg c]
      cases e : nQ 97 x.toNatClampNeg with
      | none =>
        rw [op_0]
        try simp only [↓ap1_n]
        exact ih _ _ (by omega) (by omega) (by omega)
      | some w =>
        rw [op_1]
        try simp only [↓ap1_n]
        exact ih _ _ (by omega) (by omega) (by omega)
theorem cp3t : QT nI (g_X3_copyFrom nI nR nQ I J ri rj rq) := by
  rw [g_X3_copyFrom_e]
  try simp only [↓ap1_n]
  have h := cp3_L (nI := nI) (nQ := nQ) (nR := nR) (J := J) (ri := ri) (rj := rj) (K := va_up I 96 (nI 96)) ((10 - ((0 : Int32)).toInt).toNat + 1) 0 rq (by decide +kernel) (by decide +kernel) (by decide +kernel)
  unfold QT
  rw [h]
  exact ⟨by rw [va_up_ne _ _ (show (96 : Nat) ≠ 98 by decide +kernel), va_up_self], va_up_self _ _ _⟩
theorem copyFrom_t : QT nI (g_X10_copyFrom nI nJ nR nL nQ I J ri rj rq) := by
  rw [g_X10_copyFrom_e]
  simp only [↓ap1_n]
  refine bV_all (fun _ _ _ _ _ => ?_)
  refine bV_all (fun _ _ _ _ _ => ?_)
  refine bV_all (fun _ _ _ _ _ => ?_)
  refine bV_to (P := QT nI) (Q := QT nI) cp3t (fun Ia _ ra _ _ h1 => ?_)
  refine bV_of (P := QT nI) g_X1_copyFrom_f (fun Ic _ rc _ _ h4 => ?_)
  have y1 : Ic 96 = Ia 96 := h4.1 96 (by decide +kernel)
  have y2 : Ic 98 = Ia 98 := h4.1 98 (by decide +kernel)
  exact ⟨y1.trans h1.1, y2.trans h1.2⟩
theorem image_t {r : Int32} {I1 : Nat → Int32} {J1 : Nat → Int64} {r1 : Nat → Nat → Int32} {l1 : Nat → Nat → Int64} {q1 : Nat → Nat → Option Nat} (e : g_X11_image nI nJ nR nL nQ I J ri rj rq = (r, I1, J1, r1, l1, q1)) : QT nI (I1, J1, r1, l1, q1) := by
  have h : QT nI (g_X10_copyFrom nI nJ nR nL nQ I J ri rj rq) := copyFrom_t
  rw [g_X11_image_e] at e
  generalize g_X10_copyFrom nI nJ nR nL nQ I J ri rj rq = p at h e
  obtain ⟨a, b, c, d, f⟩ := p
  have e2 : ((nI 320, a, b, c, d, f) : Int32 × vM) = (r, I1, J1, r1, l1, q1) := e
  exact (Prod.mk.inj e2).2 ▸ h
theorem back_t {r : Int32} {I1 : Nat → Int32} {J1 : Nat → Int64} {r1 : Nat → Nat → Int32} {l1 : Nat → Nat → Int64} {q1 : Nat → Nat → Option Nat} (e : g_X11_back nI nJ nR nL nQ I J ri rj rq = (r, I1, J1, r1, l1, q1)) : QT nI (I1, J1, r1, l1, q1) := by
  have h : QT nI (g_X10_copyFrom nI nJ nR nL nQ I J ri rj rq) := copyFrom_t
  rw [g_X11_back_e] at e
  generalize g_X10_copyFrom nI nJ nR nL nQ I J ri rj rq = p at h e
  obtain ⟨a, b, c, d, f⟩ := p
  have e2 : ((a 320, a, b, c, d, f) : Int32 × vM) = (r, I1, J1, r1, l1, q1) := e
  exact (Prod.mk.inj e2).2 ▸ h
end CPT
/-- both objects whole, apart, and what was there before the law untouched -/
def LI (s : State) (D : va_G) (t : pq_T) (this that : Nat) (H : Heap) (locs : List Loc) : Prop := ∃ (σ : pq_S) (I : Nat → Nat → Int32) (J : Nat → Nat → Int64) (ri : Nat → Nat → Int32) (rj : Nat → Nat → Int64) (rq : Nat → Nat → Option Nat) (tg : Nat → Nat) (τ : pq_S) (I2 : Nat → Nat → Int32) (J2 : Nat → Nat → Int64) (si : Nat → Nat → Int32) (sj : Nat → Nat → Int64) (sq : Nat → Nat → Option Nat) (tg2 : Nat → Nat) (nw kp tr rd : Nat), (va_P D vwCl (pq_P t σ (I, J, ri, rj, rq)) H ∧ va_D (fun q => s.heap.size ≤ q) (pq_P t σ (I, J, ri, rj, rq)) ∧ SH σ tg ∧ GS tg σ I ri rq ∧ FI σ ∧ this ∈ σ.1 ∧ σ.2.1 this = 11) ∧ (va_P D vwCl (pq_P t τ (I2, J2, si, sj, sq)) H ∧ va_D (fun q => s.heap.size ≤ q) (pq_P t τ (I2, J2, si, sj, sq)) ∧ SH τ tg2 ∧ GT tg2 I2 si ∧ that ∈ τ.1 ∧ τ.2.1 that = 12) ∧ (∀ a, a ∈ τ.1 → a ∉ σ.1) ∧ TR6 σ this nw kp tr ∧ APS σ tg nw kp tr ∧ RSL (vI 10 σ nw I) (vR 10 σ nw ri) (vR 12 τ that si 384) ∧ RSL (vI 10 σ kp I) (vR 10 σ kp ri) (vR 12 τ that si 385) ∧ GRV (vI 10 σ nw I) (vR 10 σ nw ri) (vL 10 σ nw rj) (vR 12 τ that si 384) ∧ GRV (vI 10 σ kp I) (vR 10 σ kp ri) (vL 10 σ kp rj) (vR 12 τ that si 385) ∧ RDF (vI 10 σ nw I) (vR 10 σ nw ri) (vR 12 τ that si 384) ∧ RDF (vI 10 σ kp I) (vR 10 σ kp ri) (vR 12 τ that si 385) ∧ (σ.2.2.1 356 this = some rd ∧ rd ∈ σ.1 ∧ σ.2.1 rd = 4) ∧ RDR (vI 4 σ rd I) (vR 4 σ rd ri) (vI 12 τ that I2) (vR 12 τ that si) ∧ TCR (vI 10 σ nw I) (vR 12 τ that si 384) ∧ TCR (vI 10 σ kp I) (vR 12 τ that si 385) ∧ va_S (fun q => s.heap.size ≤ q) s.heap H locs
theorem lw_ix {x3 : Int32} {n L : Nat} (h3 : x3.toInt = 7 * (n : Int)) (hL : 7 * n + 7 ≤ L) (hM : L ≤ 3584) {k : Int32} (hk : rg k 0 6) : vp_in (x3 + k) L := by
  have e : (x3 + k).toInt = x3.toInt + k.toInt := i_add_rg (x := x3) (y := k) (a := 0) (b := 3584) (c := 0) (d := 6) rfl rfl ⟨by omega, by omega⟩ hk (by decide +kernel)
  have q1 := hk.1
  have q2 := hk.2
  exact vp_in_iff.mpr ⟨by omega, by omega⟩
