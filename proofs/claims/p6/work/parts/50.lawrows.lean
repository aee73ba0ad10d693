theorem tw_44 : Cond.instantiable RX0 16 ∈ wsL_law := sg_2 _ (List.mem_of_getElem? (i := 20) rfl)
theorem tw_52 : Cond.instantiable RX1 3 ∈ wsL_law := sg_3 _ (List.mem_of_getElem? (i := 4) rfl)
theorem tw_40 : Cond.instantiable RX2 20 ∈ wsL_law := sg_2 _ (List.mem_of_getElem? (i := 16) rfl)
theorem tw_48 : Cond.instantiable RX3 8 ∈ wsL_law := sg_3 _ (List.mem_of_getElem? (i := 0) rfl)
theorem tw_24 : Cond.instantiable RX4 12 ∈ wsL_law := sg_2 _ (List.mem_of_getElem? (i := 0) rfl)
theorem tw_20 : Cond.instantiable RX5 8 ∈ wsL_law := sg_1 _ (List.mem_of_getElem? (i := 20) rfl)
theorem tw_152 : Cond.instantiable RX6 6 ∈ wsL_law := sg_7 _ (List.mem_of_getElem? (i := 8) rfl)
theorem tw_36 : Cond.instantiable RX7 15 ∈ wsL_law := sg_2 _ (List.mem_of_getElem? (i := 12) rfl)
theorem tw_93 : Cond.instantiable RX9 3 ∈ wsL_law := sg_4 _ (List.mem_of_getElem? (i := 21) rfl)
theorem tw_14 : Cond.instantiable RX10 13 ∈ wsL_law := sg_1 _ (List.mem_of_getElem? (i := 14) rfl)
theorem tw_1 : Cond.instantiable RX11 5 ∈ wsL_law := sg_1 _ (List.mem_of_getElem? (i := 1) rfl)
theorem tw_4 : Cond.instantiable RX12 31 ∈ wsL_law := sg_1 _ (List.mem_of_getElem? (i := 4) rfl)
theorem tw_81 : Cond.arrayClass .long ∈ wsL_law := sg_4 _ (List.mem_of_getElem? (i := 9) rfl)
theorem tw_184 : Cond.arrayClass .boolean ∈ wsL_law := sg_8 _ (List.mem_of_getElem? (i := 16) rfl)
/-! ===== the law: two pools, and the words at its entry ===== -/
theorem lw_arrI {s : State} {args : Array Value} (h : (Cond.arrayClass .int).before args s = true) : ∃ cA, ArrOfT s cA .int ∧ va_RA s cA .int := by
  obtain ⟨cA, kA, comp, h1, h2, h3⟩ := Cond.arrayClass_spec h
  exact ⟨cA, fun n z => ⟨fun k h => (by cases h), kA, h2, comp, h3⟩, h1⟩
theorem lw_arrJ {s : State} {args : Array Value} (h : (Cond.arrayClass .long).before args s = true) : ∃ cA, ArrOfT s cA .long ∧ va_RA s cA .long := by
  obtain ⟨cA, kA, comp, h1, h2, h3⟩ := Cond.arrayClass_spec h
  exact ⟨cA, fun n z => ⟨fun k h => (by cases h), kA, h2, comp, h3⟩, h1⟩
theorem lw_arrZ {s : State} {args : Array Value} (h : (Cond.arrayClass .boolean).before args s = true) : ∃ cA, ArrOfT s cA .boolean ∧ va_RA s cA .boolean := by
  obtain ⟨cA, kA, comp, h1, h2, h3⟩ := Cond.arrayClass_spec h
  exact ⟨cA, fun n z => ⟨fun k h => (by cases h), kA, h2, comp, h3⟩, h1⟩
theorem lw_arrQ {s : State} {C : String} (h : va_AO C s) : ∃ cA, ArrOfT s cA (.object C) ∧ va_RA s cA (.object C) := by
  obtain ⟨comp, cA, kA, h1, h2, h3, h4, h5⟩ := Cond.arrayOver_spec (va_AO.use (A := #[]) h)
  exact ⟨cA, fun n z => ⟨fun k h => (by cases h), kA, h3, comp, h4⟩, kA, comp, h3, h4, h1, h5⟩
theorem pq_mem {t : pq_T} {σ : pq_S} {μ : pq_M} {k : Nat} {q : Nat × va_E} (h : (pq_P t σ μ)[k]? = some q) : q.1 ∈ σ.1 := by
  have h2 : q ∈ va_pl σ.1 (pq_E t σ μ) := List.mem_of_getElem? h
  obtain ⟨a, ha, rfl⟩ := List.mem_map.mp h2
  exact ha
theorem pq_lt {D : va_G} {t : pq_T} {σ : pq_S} {μ : pq_M} {H : Heap} {a : Nat} (hP : va_P D vwCl (pq_P t σ μ) H) (h : a ∈ σ.1) : a < H.size := by
  obtain ⟨k, hk⟩ := pq_in (t := t) (μ := μ) h
  exact (hP k _ hk).lt
theorem pq_keep {D : va_G} {t : pq_T} {σ τ : pq_S} {μ ν : pq_M} {H H1 : Heap} (hP : va_P D vwCl (pq_P t τ ν) H) (hdis : ∀ a, a ∈ τ.1 → a ∉ σ.1) (hk : ∀ q : Nat, q < H.size → ¬ pq_B t σ μ H.size q → H1[q]? = H[q]?) : va_P D vwCl (pq_P t τ ν) H1 := hP.kept (fun k q hq => hk q.1 (hP k q hq).lt (fun h => h.elim (fun ⟨_, e, h2⟩ => hdis q.1 (pq_mem hq) (pq_mem (q := (q.1, e)) h2)) (fun h2 => absurd (hP k q hq).lt (Nat.not_lt.mpr h2))))
section PQL
variable {p : Program} {l : Launch} {e : Env} {R : Room} {s : State} {m : MethodId} {args : Array Value} {below : List Frame} {meth : Method} {c : Code} {H : Heap} {locs : List Loc} {cells slots : Nat} {Q : State → Prop}
variable {cc : ByteArray} {pc : Nat} {ls : Array Slot} {rest : List Value} {D : va_G} {A : Nat → Prop} {a : Nat} {t : pq_T} {σ τ : pq_S} {H0 : Heap}
theorem lk_v {post : pq_S × pq_M → Prop} {st0 : List Value} {μ ν : pq_M} {mc ms : Nat} {av : Array Value} (hr : va_Run p l e R s m args below meth c H locs cells slots mc ms (F0 m pc ls st0) rest (va_Qv post (pq_Ou D t (pq_B t σ μ H.size)) (pq_B t σ μ H.size) av) (pq_B t σ μ H.size)) (hD : va_D A (pq_P t σ μ)) (hS : va_S A H0 H locs) (hA : ∀ q, H0.size ≤ q → A q) (hP2 : va_P D vwCl (pq_P t τ ν) H) (hdis : ∀ a, a ∈ τ.1 → a ∉ σ.1)
    (kk : ∀ (σ1 : pq_S) (μ1 : pq_M) (H1 : Heap) (locs1 : List Loc), post (σ1, μ1) → va_P D vwCl (pq_P t σ1 μ1) H1 → va_D A (pq_P t σ1 μ1) → va_P D vwCl (pq_P t τ ν) H1 → (∀ a, a ∈ τ.1 → a ∉ σ1.1) → va_S A H0 H1 locs1 → W p l e R s m args below meth c H1 locs1 (cells + mc) (slots + ms) Q (F0 m (pc + 3) ls rest)) : W p l e R s m args below meth c H locs cells slots Q (F0 m pc ls st0) := by
  have hF := pq_A (D := D) hD hS hA
  refine va_callv hr hS (fun q _ h => hF q h) hF (fun u t1 H1 locs1 ht hvm hw hB hz hk hS1 => ?_)
  obtain ⟨hP1, -, hD1⟩ := hB
  refine kk u.1 u.2 H1 locs1 hw (by rw [← ht]; exact hP1) (hD1.weaken (fun _ q _ h => hF q.1 h)) (pq_keep hP2 hdis hk) (fun a ha hu => ?_) hS1
  obtain ⟨k, hk2⟩ := pq_in (t := t) (μ := u.2) hu
  rcases hD1.2 k _ hk2 with ⟨_, e2, h2⟩ | h2
  · exact hdis a ha (pq_mem (q := (a, e2)) h2)
  · exact absurd (pq_lt hP2 ha) (Nat.not_lt.mpr h2)
/-- what is seen of a pool with one cell more: the cells that were there -/
theorem pq_old {D : va_G} {H : Heap} {w1 w2 : va_W} (h : va_P D vwCl (w1 ++ w2) H) : va_P D vwCl w1 H := fun k q hk => h k q (by
  rw [List.getElem?_append_left (List.getElem?_eq_some_iff.mp hk).1]; exact hk)
theorem pq_oldD {w1 w2 : va_W} (h : va_D A (w1 ++ w2)) : va_D A w1 := by
  have g : ∀ (k : Nat) (q : Nat × va_E), w1[k]? = some q → (w1 ++ w2)[k]? = some q := fun k q hk => by
    rw [List.getElem?_append_left (List.getElem?_eq_some_iff.mp hk).1]; exact hk
  exact ⟨fun i j p q h1 h2 h3 => h.1 i j p q (g i p h1) (g j q h2) h3, fun k q hk => h.2 k q (g k q hk)⟩
theorem pq_new {D : va_G} {H : Heap} {w1 : va_W} {x : Nat × va_E} (h : va_P D vwCl (w1 ++ [x]) H) : va_P D vwCl [x] H := fun k q hk => h (w1.length + k) q (by
  rw [List.getElem?_append_right (Nat.le_add_right _ _), Nat.add_sub_cancel_left]; exact hk)
theorem pq_newD {w1 : va_W} {x : Nat × va_E} (h : va_D A (w1 ++ [x])) : va_D A [x] := by
  have g : ∀ (k : Nat) (q : Nat × va_E), [x][k]? = some q → (w1 ++ [x])[w1.length + k]? = some q := fun k q hk => by
    rw [List.getElem?_append_right (Nat.le_add_right _ _), Nat.add_sub_cancel_left]; exact hk
  exact ⟨fun i j p q h1 h2 h3 => Nat.add_left_cancel (h.1 _ _ p q (g i p h1) (g j q h2) h3), fun k q hk => h.2 _ q (g k q hk)⟩
theorem pq_apart {w : Nat} {e : va_E} {μ : pq_M} (h : va_D A (pq_P t σ μ ++ [(w, e)])) : w ∉ σ.1 := va_pl_fresh2 (X := []) h
end PQL
def pq_S0 : pq_S := ([], fun _ => 0, fun _ _ => none, fun _ => 0)
theorem lw_K {s : State} {args : Array Value} (hw : ∀ w ∈ wsL_law, w.before args s = true) (hA : va_AO "RingsUnder$Text" s) : ∃ (D : va_G) (t : pq_T), va_K D vwCl (pq_ty t) s := by
  obtain ⟨c0, i0, k0⟩ := u_known (C := RX0) (T := TX0) (N := 16) (n := 16) hw (fun w h => inlX0 w h) (hw _ (tw_44))
  obtain ⟨c1, i1, k1⟩ := u_known (C := RX1) (T := TX1) (N := 3) (n := 3) hw (fun w h => inlX1 w h) (hw _ (tw_52))
  obtain ⟨c2, i2, k2⟩ := u_known (C := RX2) (T := TX2) (N := 20) (n := 20) hw (fun w h => inlX2 w h) (hw _ (tw_40))
  obtain ⟨c3, i3, k3⟩ := u_known (C := RX3) (T := TX3) (N := 8) (n := 8) hw (fun w h => inlX3 w h) (hw _ (tw_48))
  obtain ⟨c4, i4, k4⟩ := u_known (C := RX4) (T := TX4) (N := 12) (n := 12) hw (fun w h => inlX4 w h) (hw _ (tw_24))
  obtain ⟨c5, i5, k5⟩ := u_known (C := RX5) (T := TX5) (N := 8) (n := 8) hw (fun w h => inlX5 w h) (hw _ (tw_20))
  obtain ⟨c6, i6, k6⟩ := u_known (C := RX6) (T := TX6) (N := 6) (n := 6) hw (fun w h => inlX6 w h) (hw _ (tw_152))
  obtain ⟨c7, i7, k7⟩ := u_known (C := RX7) (T := TX7) (N := 15) (n := 15) hw (fun w h => inlX7 w h) (hw _ (tw_36))
  obtain ⟨c8, i8, k8⟩ := u_known (C := RX8) (T := TX8) (N := 4) (n := 4) hw (fun w h => inlX8 w h) (hw _ (tw_158))
  obtain ⟨c9, i9, k9⟩ := u_known (C := RX9) (T := TX9) (N := 3) (n := 3) hw (fun w h => inlX9 w h) (hw _ (tw_93))
  obtain ⟨c10, i10, k10⟩ := u_known (C := RX10) (T := TX10) (N := 13) (n := 13) hw (fun w h => inlX10 w h) (hw _ (tw_14))
  obtain ⟨c11, i11, k11⟩ := u_known (C := RX11) (T := TX11) (N := 5) (n := 5) hw (fun w h => inlX11 w h) (hw _ (tw_1))
  obtain ⟨c12, i12, k12⟩ := u_known (C := RX12) (T := TX12) (N := 31) (n := 31) hw (fun w h => inlX12 w h) (hw _ (tw_4))
  obtain ⟨a1, b1⟩ := lw_arrI (hw _ (tw_33))
  obtain ⟨a2, b2⟩ := lw_arrJ (hw _ (tw_81))
  obtain ⟨a3, b3⟩ := lw_arrZ (hw _ (tw_184))
  obtain ⟨a4, b4⟩ := lw_arrQ hA
  refine ⟨(fun c => match c with | 0 => c0 | 1 => c1 | 2 => c2 | 3 => c3 | 4 => c4 | 5 => c5 | 6 => c6 | 7 => c7 | 8 => c8 | 9 => c9 | 10 => c10 | 11 => c11 | _ => c12, fun c => match c with | 0 => i0 | 1 => i1 | 2 => i2 | 3 => i3 | 4 => i4 | 5 => i5 | 6 => i6 | 7 => i7 | 8 => i8 | 9 => i9 | 10 => i10 | 11 => i11 | _ => i12), (a1, a2, a3, a4), fun c q h => ?_, fun k q h => ?_⟩
  · match c, h with
    | 0, h => cases h; exact k0
    | 1, h => cases h; exact k1
    | 2, h => cases h; exact k2
    | 3, h => cases h; exact k3
    | 4, h => cases h; exact k4
    | 5, h => cases h; exact k5
    | 6, h => cases h; exact k6
    | 7, h => cases h; exact k7
    | 8, h => cases h; exact k8
    | 9, h => cases h; exact k9
    | 10, h => cases h; exact k10
    | 11, h => cases h; exact k11
    | 12, h => cases h; exact k12
    | c + 13, h => cases h
  · match k, h with
    | 0, h => cases h; exact b1
    | 1, h => cases h; exact b2
    | 2, h => cases h; exact b3
    | 3, h => cases h; exact b4
    | k + 4, h => cases h

theorem lw_N {s : State} {args : Array Value} (ht : ∀ w ∈ lw_tbl, w.before args s = true) : pq_N s := by
  refine ⟨?_, va_AO.of (ht (.arrayOver (.object "RingsUnder$Text")) (List.mem_append_right _ (ts_2 _ (List.mem_of_getElem? (i := 65) rfl))))⟩
  exact List.forall_mem_cons.mpr ⟨va_Nw.of rfl (ht (.methodLinkNest RX7 55 yX11_fill "RingsUnder") (List.mem_append_right _ (ts_1 _ (List.mem_of_getElem? (i := 42) rfl)))), List.forall_mem_cons.mpr ⟨va_Nw.of rfl (ht (.methodLinkNest RX2 45 yX9_init "RingsUnder") (List.mem_append_right _ (ts_1 _ (List.mem_of_getElem? (i := 122) rfl)))), List.forall_mem_cons.mpr ⟨va_Nw.of rfl (ht (.methodLinkNest RX2 65 yX11_fill "RingsUnder") (List.mem_append_right _ (ts_1 _ (List.mem_of_getElem? (i := 140) rfl)))), List.forall_mem_cons.mpr ⟨va_Nw.of rfl (ht (.methodLinkNest RX10 38 yX0_init "RingsUnder") (List.mem_append_right _ (ts_1 _ (List.mem_of_getElem? (i := 227) rfl)))), List.forall_mem_cons.mpr ⟨va_Nw.of rfl (ht (.methodLinkNest RX10 45 yX3_init "RingsUnder") (List.mem_append_right _ (ts_2 _ (List.mem_of_getElem? (i := 60) rfl)))), List.forall_mem_cons.mpr ⟨va_Nw.of rfl (ht (.methodLinkNest RX10 52 yX1_init "RingsUnder") (List.mem_append_right _ (ts_2 _ (List.mem_of_getElem? (i := 96) rfl)))), List.forall_mem_cons.mpr ⟨va_Nw.of rfl (ht (.methodLinkNest RX10 63 yX11_fill "RingsUnder") (List.mem_append_right _ (ts_2 _ (List.mem_of_getElem? (i := 111) rfl)))), List.forall_mem_cons.mpr ⟨va_Nw.of rfl (ht (.methodLinkNest RX11 24 yX5_init "RingsUnder") (List.mem_append_right _ (ts_2 _ (List.mem_of_getElem? (i := 171) rfl)))), List.forall_mem_cons.mpr ⟨va_Nw.of rfl (ht (.methodLinkNest RX11 31 yX4_init "RingsUnder") (List.mem_append_right _ (ts_2 _ (List.mem_of_getElem? (i := 204) rfl)))), List.forall_mem_cons.mpr ⟨va_Nw.of rfl (ht (.methodLinkNest RX4 11 yX6_init "RingsUnder") (List.mem_append_right _ (ts_2 _ (List.mem_of_getElem? (i := 210) rfl)))), List.forall_mem_cons.mpr ⟨va_Nw.of rfl (ht (.methodLinkNest RX4 27 yX8_init "RingsUnder") (List.mem_append_right _ (ts_2 _ (List.mem_of_getElem? (i := 239) rfl)))), List.forall_mem_cons.mpr ⟨va_Nw.of rfl (ht (.methodLinkNest RX2 101 yX11_hasBit "RingsUnder") (List.mem_append_right _ (ts_4 _ (List.mem_of_getElem? (i := 17) rfl)))), List.forall_mem_cons.mpr ⟨va_Nw.of rfl (ht (.methodLinkNest RX3 65 yX11_hasBit "RingsUnder") (List.mem_append_right _ (ts_4 _ (List.mem_of_getElem? (i := 68) rfl)))), List.forall_mem_cons.mpr ⟨va_Nw.of rfl (ht (.methodLinkNest RX0 73 yX11_hasBit "RingsUnder") (List.mem_append_right _ (ts_4 _ (List.mem_of_getElem? (i := 92) rfl)))), List.forall_mem_cons.mpr ⟨va_Nw.of rfl (ht (.methodLinkNest RX9 29 yX11_hasBit "RingsUnder") (List.mem_append_right _ (ts_5 _ (List.mem_of_getElem? (i := 104) rfl)))), List.forall_mem_cons.mpr ⟨va_Nw.of rfl (ht (.methodLinkNest RX0 58 yX11_copy "RingsUnder") (List.mem_append_right _ (ts_5 _ (List.mem_of_getElem? (i := 115) rfl)))), List.forall_mem_cons.mpr ⟨va_Nw.of rfl (ht (.methodLinkNest RX0 113 yX11_fill "RingsUnder") (List.mem_append_right _ (ts_5 _ (List.mem_of_getElem? (i := 184) rfl)))), List.forall_mem_cons.mpr ⟨va_Nw.of rfl (ht (.methodLinkNest RX10 76 yX11_copy "RingsUnder") (List.mem_append_right _ (ts_5 _ (List.mem_of_getElem? (i := 202) rfl)))), List.forall_mem_cons.mpr ⟨va_Nw.of rfl (ht (.methodLinkNest RX7 62 yX11_copy "RingsUnder") (List.mem_append_right _ (ts_5 _ (List.mem_of_getElem? (i := 207) rfl)))), List.forall_mem_cons.mpr ⟨va_Nw.of rfl (ht (.methodLinkNest RX2 89 yX11_copy "RingsUnder") (List.mem_append_right _ (ts_5 _ (List.mem_of_getElem? (i := 213) rfl)))), List.forall_mem_cons.mpr ⟨va_Nw.of rfl (ht (.methodLinkNest RX9 21 yX11_copy "RingsUnder") (List.mem_append_right _ (ts_5 _ (List.mem_of_getElem? (i := 218) rfl)))), List.forall_mem_cons.mpr ⟨va_Nw.of rfl (ht (.methodLinkNest RX3 40 yX11_copy "RingsUnder") (List.mem_append_right _ (ts_5 _ (List.mem_of_getElem? (i := 227) rfl)))), List.forall_mem_cons.mpr ⟨va_Nw.of rfl (ht (.methodLinkNest RX1 23 yX11_copy "RingsUnder") (List.mem_append_right _ (ts_5 _ (List.mem_of_getElem? (i := 232) rfl)))), List.forall_mem_cons.mpr ⟨va_Nw.of rfl (ht (.methodLinkNest RX5 60 yX11_copy "RingsUnder") (List.mem_append_right _ (ts_6 _ (List.mem_of_getElem? (i := 31) rfl)))), List.forall_mem_cons.mpr ⟨va_Nw.of rfl (ht (.methodLinkNest RX10 226 yX11_hasBit "RingsUnder") (List.mem_append_right _ (ts_6 _ (List.mem_of_getElem? (i := 58) rfl)))), List.forall_mem_cons.mpr ⟨va_Nw.of rfl (ht (.methodLinkNest RX1 33 yX11_hasBit "RingsUnder") (List.mem_append_right _ (ts_6 _ (List.mem_of_getElem? (i := 104) rfl)))), fun _ h => by cases h⟩⟩⟩⟩⟩⟩⟩⟩⟩⟩⟩⟩⟩⟩⟩⟩⟩⟩⟩⟩⟩⟩⟩⟩⟩⟩
