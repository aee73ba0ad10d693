/-! ===== a pool is parted: what a call on one tree leaves of the others ===== -/
/-- T holds what its members refer to -/
def CLD (σ : pq_S) (rq : Nat → Nat → Option Nat) (T : List Nat) : Prop := (∀ a, a ∈ T → a ∈ σ.1) ∧ (∀ a, a ∈ T → ∀ f w, (ftp f).1 = σ.2.1 a → σ.2.2.1 f a = some w → w ∈ T) ∧ ∀ a, a ∈ T → ∀ j w, rq a j = some w → w ∈ T
def pR (σ : pq_S) (T : List Nat) : pq_S := (T, σ.2)
def qR (T : List Nat) (rq : Nat → Nat → Option Nat) : Nat → Nat → Option Nat := fun a j => if a ∈ T then rq a j else none
section PR
variable {t : pq_T} {σ : pq_S} {T R : List Nat} {tg : Nat → Nat} {I I2 : Nat → Nat → Int32} {J J2 : Nat → Nat → Int64} {ri si : Nat → Nat → Int32} {rj sj : Nat → Nat → Int64} {rq sq : Nat → Nat → Option Nat} {D : va_G} {H : Heap} {A : Nat → Prop} {μ ν : pq_M}
theorem SH_R (h : SH σ tg) (c : CLD σ rq T) : SH (pR σ T) tg := fun a ha f hf => by
  obtain ⟨w, h1, h2, h3, h4⟩ := h a (c.1 a ha) f hf
  exact ⟨w, h1, c.2.1 a ha f w hf h1, h3, h4⟩
theorem FI_R (h : FI σ) (c : CLD σ rq T) : FI (pR σ T) := fun w v q hw hv h1 h2 h3 h4 => h w v q (c.1 w hw) (c.1 v hv) h1 h2 h3 h4
theorem GS_R (h : GS tg σ I ri rq) (c : CLD σ rq T) : GS tg (pR σ T) I ri (qR T rq) := by
  obtain ⟨h1, h2, h3, h4⟩ := h
  refine ⟨h1, h2, fun q j w e => ?_, fun w hw hk q hq => h4 w (c.1 w hw) hk q hq⟩
  unfold qR at e
  by_cases ha : q ∈ T
  · rw [if_pos ha] at e; exact ⟨c.2.2 q ha j w e, (h3 q j w e).2⟩
  · rw [if_neg ha] at e; cases e
theorem pR_P (hP : va_P D vwCl (pq_P t σ (I, J, ri, rj, rq)) H) (hT : ∀ a, a ∈ T → a ∈ σ.1) : va_P D vwCl (pq_P t (pR σ T) (I, J, ri, rj, qR T rq)) H := fun k q hk => by
  have h2 : q ∈ va_pl T (pq_E t (pR σ T) (I, J, ri, rj, qR T rq)) := List.mem_of_getElem? hk
  obtain ⟨a, ha, rfl⟩ := List.mem_map.mp h2
  obtain ⟨k2, hk2⟩ := pq_in (t := t) (μ := (I, J, ri, rj, rq)) (hT a ha)
  have e : pq_E t (pR σ T) (I, J, ri, rj, qR T rq) a = pq_E t σ (I, J, ri, rj, rq) a := pq_EC rfl rfl (fun _ => rfl) (fun _ => rfl) (fun _ => rfl) rfl rfl (funext fun j => if_pos ha)
  have z := hP k2 _ hk2
  rw [← e] at z
  exact z
theorem pl_key {L : List Nat} {f : Nat → va_E} {i : Nat} {p : Nat × va_E} (h : (va_pl L f)[i]? = some p) : L[i]? = some p.1 := by
  unfold va_pl at h
  rw [List.getElem?_map] at h
  obtain ⟨a, ha, rfl⟩ := Option.map_eq_some_iff.mp h
  exact ha
theorem pR_D (hD : va_D A (pq_P t σ μ)) (hT : ∀ a, a ∈ T → a ∈ σ.1) (hN : T.Nodup) : va_D A (pq_P t (pR σ T) ν) := by
  refine ⟨fun i j p q hp hq e => ?_, fun k q hk => ?_⟩
  · have h1 : T[i]? = some p.1 := pl_key hp
    have h2 : T[j]? = some q.1 := pl_key hq
    exact (List.getElem?_inj (List.getElem?_eq_some_iff.mp h1).1 hN).mp (by rw [h1, h2, e])
  · obtain ⟨k2, hk2⟩ := pq_in (t := t) (μ := μ) (hT q.1 (List.mem_of_getElem? (pl_key hk)))
    exact hD.2 k2 (q.1, pq_E t σ μ q.1) hk2
theorem pD_mu (hD : va_D A (pq_P t σ μ)) : va_D A (pq_P t σ ν) := by
  have g : ∀ (i : Nat) (p : Nat × va_E), (pq_P t σ ν)[i]? = some p → (pq_P t σ μ)[i]? = some (p.1, pq_E t σ μ p.1) := fun i p h => by
    have h1 : σ.1[i]? = some p.1 := pl_key h
    unfold pq_P va_pl
    rw [List.getElem?_map, h1]; rfl
  exact ⟨fun i j p q hp hq e => hD.1 i j _ _ (g i p hp) (g j q hq) e, fun k q hk => hD.2 k (q.1, pq_E t σ μ q.1) (g k q hk)⟩
theorem pR_join (h1 : va_P D vwCl (pq_P t (pR σ T) (I2, J2, si, sj, sq)) H) (h2 : va_P D vwCl (pq_P t (pR σ R) (I, J, ri, rj, rq)) H) (hTR : ∀ a, a ∈ σ.1 → a ∈ T ∨ a ∈ R) : va_P D vwCl (pq_P t σ (fU T I I2, fU T J J2, gU T ri si, gU T rj sj, gU T rq sq)) H := fun k q hk => by
  have hq : q ∈ va_pl σ.1 (pq_E t σ (fU T I I2, fU T J J2, gU T ri si, gU T rj sj, gU T rq sq)) := List.mem_of_getElem? hk
  obtain ⟨a, ha, rfl⟩ := List.mem_map.mp hq
  by_cases hT : a ∈ T
  · obtain ⟨k2, hk2⟩ := pq_in (σ := pR σ T) (t := t) (μ := (I2, J2, si, sj, sq)) hT
    have e : pq_E t σ (fU T I I2, fU T J J2, gU T ri si, gU T rj sj, gU T rq sq) a = pq_E t (pR σ T) (I2, J2, si, sj, sq) a := pq_EC rfl rfl (fun _ => rfl) (fun _ => if_pos hT) (fun _ => if_pos hT) (if_pos hT) (if_pos hT) (if_pos hT)
    have z := h1 k2 _ hk2
    rw [← e] at z
    exact z
  · obtain ⟨k2, hk2⟩ := pq_in (σ := pR σ R) (t := t) (μ := (I, J, ri, rj, rq)) ((hTR a ha).resolve_left hT)
    have e : pq_E t σ (fU T I I2, fU T J J2, gU T ri si, gU T rj sj, gU T rq sq) a = pq_E t (pR σ R) (I, J, ri, rj, rq) a := pq_EC rfl rfl (fun _ => rfl) (fun _ => if_neg hT) (fun _ => if_neg hT) (if_neg hT) (if_neg hT) (if_neg hT)
    have z := h2 k2 _ hk2
    rw [← e] at z
    exact z
theorem GS_join (h : GS tg σ I ri rq) (h2 : GS tg (pR σ T) I2 si sq) (c : CLD σ rq T) (d : CLD σ rq R) (hdis : ∀ a, a ∈ R → a ∉ T) (hTR : ∀ a, a ∈ σ.1 → a ∈ T ∨ a ∈ R) : GS tg σ (fU T I I2) (gU T ri si) (gU T rq sq) := by
  obtain ⟨a1, a2, a3, a4⟩ := h
  obtain ⟨b1, b2, b3, b4⟩ := h2
  refine ⟨fun f a => ?_, fun q j => ?_, fun q j w e => ?_, fun w hw hk q hq n hn => ?_⟩
  · unfold fU; split
    · exact b1 f a
    · exact a1 f a
  · unfold gU; split
    · exact b2 q j
    · exact a2 q j
  · unfold gU at e
    by_cases hT : q ∈ T
    · rw [if_pos hT] at e; exact ⟨c.1 w (b3 q j w e).1, (b3 q j w e).2⟩
    · rw [if_neg hT] at e; exact a3 q j w e
  · have h258 : (ftp 258).1 = 8 := by decide
    by_cases hT : w ∈ T
    · have hqT : q ∈ T := c.2.1 w hT 258 q (h258.trans hk.symm) hq
      rw [fU_i hT] at hn
      rw [gU_i hqT]
      exact b4 w hT hk q hq n hn
    · have hqR : q ∈ R := d.2.1 w ((hTR w hw).resolve_left hT) 258 q (h258.trans hk.symm) hq
      rw [fU_o hT] at hn
      rw [gU_o (hdis q hqR)]
      exact a4 w hw hk q hq n hn
end PR
