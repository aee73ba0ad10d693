/-! ===== pure: BOATS of both sides: the loops (behind pk8) ===== -/
section PK9
variable {I : Nat → Int32} {J : Nat → Int64} {ri : Nat → Nat → Int32} {rj : Nat → Nat → Int64} {rq : Nat → Nat → Option Nat}
variable {U : Nat → Int32} {V : Nat → Int64} {si : Nat → Nat → Int32} {sj : Nat → Nat → Int64} {sq : Nat → Nat → Option Nat}
variable {A0 : Nat → Int32} {B0 : Nat → Bool} {g r : Nat → Nat} {N L : Nat} {so : Int64}
/-- nobody twice -/
def NDL : List Nat → Prop
  | [] => True
  | q :: Q => q ∉ Q ∧ NDL Q
theorem rins_nd {lt : Nat → Nat → Bool} {p : Nat} : ∀ Q : List Nat, NDL Q → p ∉ Q → NDL (rins lt p Q)
  | [], _, _ => ⟨fun h => (by cases h), trivial⟩
  | q :: Q, h, hp => by
    show NDL (if lt p q = true then q :: rins lt p Q else p :: q :: Q)
    split
    · refine ⟨fun y => ?_, rins_nd Q h.2 (fun y => hp (List.mem_cons_of_mem _ y))⟩
      rcases rins_m Q q y with e | e
      · exact hp (e ▸ List.mem_cons_self ..)
      · exact h.1 e
    · exact ⟨hp, h⟩
theorem srt_nd {lt : Nat → Nat → Bool} : ∀ k, NDL (srt lt k)
  | 0 => trivial
  | k + 1 => rins_nd _ (srt_nd k) (fun h => absurd (srt_m k k h) (Nat.lt_irrefl _))
theorem dl_nd : ∀ (M i : Nat), i < M → NDL (dl g M) → g i ∉ dl g i
  | 0, _, h, _ => absurd h (Nat.not_lt_zero _)
  | M + 1, i, h, hn => by
    have hn' : g M ∉ dl g M ∧ NDL (dl g M) := hn
    by_cases e : i = M
    · rw [e]; exact hn'.1
    · exact dl_nd M i (by omega) hn'.2
/-- the reference's row are those of the queue who may -/
theorem dl_f : ∀ (M K : Nat), (dl g M).filter B0 = dl r K → ∀ i, i ≤ M → ∃ k, k ≤ K ∧ (dl g i).filter B0 = dl r k ∧ (i < M → B0 (g i) = true → k < K ∧ r k = g i)
  | 0, K, h, i, hi => ⟨K, Nat.le_refl _, by rw [show i = 0 by omega]; exact h, fun h => by omega⟩
  | M + 1, K, h, i, hi => by
    have h' : List.filter B0 (g M :: dl g M) = dl r K := h
    by_cases b : B0 (g M) = true
    · rw [List.filter_cons_of_pos b] at h'
      cases K with
      | zero => cases h'
      | succ K =>
        have h2 : g M :: (dl g M).filter B0 = r K :: dl r K := h'
        obtain ⟨e1, e2⟩ := List.cons.inj h2
        by_cases e : i = M + 1
        · rw [e]
          exact ⟨K + 1, Nat.le_refl _, h, fun y => by omega⟩
        · obtain ⟨k, k1, k2, k3⟩ := dl_f M K e2 i (by omega)
          by_cases em : i = M
          · rw [em] at k2 ⊢
            have : k = K := by
              have l := congrArg List.length (k2.symm.trans e2)
              have dll : ∀ n, (dl r n).length = n := fun n => by
                induction n with
                | zero => rfl
                | succ n ih => show (dl r n).length + 1 = n + 1; rw [ih]
              rw [dll, dll] at l
              exact l
            exact ⟨K, by omega, e2, fun _ _ => ⟨by omega, e1.symm⟩⟩
          · exact ⟨k, by omega, k2, fun _ y => by
              obtain ⟨a, c⟩ := k3 (by omega) y
              exact ⟨by omega, c⟩⟩
    · rw [List.filter_cons_of_neg b] at h'
      by_cases e : i = M + 1
      · rw [e]
        exact ⟨K, Nat.le_refl _, h, fun y => by omega⟩
      · obtain ⟨k, k1, k2, k3⟩ := dl_f M K h' i (by omega)
        by_cases em : i = M
        · rw [em] at k2 k3 ⊢
          exact ⟨k, k1, k2, fun _ y => absurd y b⟩
        · exact ⟨k, k1, k2, fun _ y => k3 (by omega) y⟩
theorem dl_l : ∀ n, (dl r n).length = n
  | 0 => rfl
  | n + 1 => by
    show (dl r n).length + 1 = n + 1
    rw [dl_l n]
/-- all are asked, both sides -/
theorem bs_sim {mo xN xK : Int32} {K : Nat} {row : Nat → Int32} {rw0 : Nat → Int32} {kn : Nat → Int32} {m : Nat → Nat → Int64} {I3 : Nat → Int32} (hR : RNG A0 B0 N) (hN : N ≤ 40) (hxN : xN.toInt = (N : Int)) (hxK : xK.toInt = (K : Int)) (hI10 : (I 10).toInt = (L : Int)) (hL : L ≤ 5) (h4 : (A0 4).toInt = (L : Int)) (h5 : (A0 5).toInt = (N : Int)) (hg : ∀ j, j < N → (rw0 j).toInt = (g j : Int) ∧ g j < N) (hr : ∀ k, k < K → (row k).toInt = (r k : Int)) (hfl : (dl g N).filter B0 = dl r K) (hnd : NDL (dl g N)) (hso : ∀ q, q < N → hb so q = B0 q) (hkn : ∀ q, q < 40 → kn q = A0 (740 + 12 * q)) : ∀ (n i : Nat) (x2 left : Int32) (R s : Nat → Nat → Int32) (k nm : Nat) (y2 : Int32), x2.toInt = (i : Int) → 40 - i < n → i ≤ N → y2.toInt = (k : Int) → 40 - k < nm → k ≤ K → K ≤ 40 → (dl g i).filter B0 = dl r k → R 331 = rw0 → R 1 = kn → s 411 = row → INVb A0 B0 g N L i R s → ∃ R' s' : Nat → Nat → Int32, g_X0_board_331_L43 so xN mo I J rj rq n left x2 R = (I, J, R', rj, rq) ∧ g_X12_boatsGo_L142 mo V sq I3 xK m nm left y2 s = (I3, V, s', m, sq) ∧ INVb A0 B0 g N L N R' s' := by
  have k0 : (0 : Int32).toInt = 0 := by decide
  have k40 : (40 : Int32).toInt = 40 := by decide
  intro n
  induction n with
  | zero => intro i _ _ _ _ _ _ _ _ h; exact absurd h (Nat.not_lt_zero _)
  | succ n ih =>
    intro i x2 left R s k nm y2 hx hn hi hy hnm hk hK hf h331 h1 h411 hv
    obtain ⟨nm, rfl⟩ : ∃ z, nm = z + 1 := ⟨nm - 1, by omega⟩
    rw [g_X0_board_331_L43_e]
    by_cases c : xN ≤ x2
    · have c1 := (le_n hxN hx).mp c
      have ei : i = N := by omega
      have ek : k = K := by
        rw [ei, hfl] at hf
        have := congrArg List.length hf
        rw [dl_l, dl_l] at this
        exact this.symm
      rw [if_pos c, g_X12_boatsGo_L142_e, if_pos ((le_n hxK hy).mpr (by omega))]
      rw [ei] at hv
      exact ⟨R, s, rfl, rfl, hv⟩
    · have c1 : ¬ N ≤ i := fun y => c ((le_n hxN hx).mpr y)
      obtain ⟨g1, g2⟩ := hg i (by omega)
      have nx := up_i hx (by omega)
      rw [if_neg c, if_neg (show ¬ (40 : Int32) ≤ x2 from fun y => by have := Int32.le_iff_toInt_le.mp y; omega)]
      simp only [↓ap1_n]
      rw [at_n hx, h331, hasBit_v (by omega) (by omega), at_n g1, hso _ g2]
      have hnew := dl_nd N i (by omega) hnd
      obtain ⟨ha, hb', hc, hd, he, hf', hg', hh, hk'⟩ := hv
      by_cases b : B0 (g i) = true
      · -- one who may
        obtain ⟨k2, k3, k4, k5⟩ := dl_f N K hfl i (by omega)
        have ekk : k2 = k := by
          have := congrArg List.length (k4.symm.trans hf)
          rw [dl_l, dl_l] at this
          exact this
        rw [ekk] at k5
        obtain ⟨kK, rk⟩ := k5 (by omega) b
        have nf : (dl g (i + 1)).filter B0 = dl r (k + 1) := by
          show List.filter B0 (g i :: dl g i) = r k :: dl r k
          rw [List.filter_cons_of_pos b, hf, rk]
        have ny := up_i hy (by omega)
        have h5P := ha (g i) g2 b hnew
        obtain ⟨⟨p0, p5⟩, _⟩ := hR (g i) g2 b
        have ring : g_X0_isOnRing (rw0 i) I J R rj rq = (1, I, J, R, rj, rq) := by
          rw [g_X0_isOnRing_e]
          simp only [↓ap1_n]
          rw [at_n g1, h5P, if_neg (fun y => by
            have := Int32.le_iff_toInt_le.mp y
            have k5' : (5 : Int32).toInt = 5 := by decide
            omega)]
        obtain ⟨xg, gr, gn⟩ : ∃ xg : Int32, g_X0_groupOf (rw0 i) I J R rj rq = (xg, I, J, R, rj, rq) ∧ xg.toNatClampNeg = giN A0 (g i) := by
          rw [g_X0_groupOf_e]
          simp only [↓ap1_n]
          rw [at_n g1, h5P, h1, hkn _ (by omega)]
          exact ⟨_, rfl, rfl⟩
        have rowk : (row k).toInt = (g i : Int) := by rw [hr k kK, rk]
        have nK : ¬ xK ≤ y2 := fun y => by
          have := (le_n hxK hy).mp y
          omega
        rw [if_pos b, if_neg (show ¬ (1 : Int32) = 0 by decide), ring, bnI_mk, if_neg (show ¬ (1 : Int32) = 0 by decide), gr, bnI_mk, gn, g_X12_boatsGo_L142_e, if_neg nK]
        simp only [↓ap1_n, g_X12_boatsGo_K182]
        rw [at_n hy, h411, at_n rowk]
        have hz := he (g i) g2
        by_cases u : R 15 (giN A0 (g i)) = -2
        · -- its group is asked for the first time
          have z : s 412 (g i) = 0 := hz.mpr ⟨b, u⟩
          have hM : fmM s (g i) (g i) = true := decide_eq_true ⟨z, rfl, rfl⟩
          have e4 : s 384 4 = A0 4 := hk' 4 (fun q k _ hk2 => by simp only [List.mem_cons, List.not_mem_nil, or_false] at hk2; omega)
          have e5 : s 384 5 = A0 5 := hk' 5 (fun q k _ hk2 => by simp only [List.mem_cons, List.not_mem_nil, or_false] at hk2; omega)
          have hv : INVb A0 B0 g N L i R s := ⟨ha, hb', hc, hd, he, hf', hg', hh, hk'⟩
          have cnt : cbN (fmM s (g i)) N = cbN (gpB A0 B0 (g i)) N := cbN_cg N (fun q hq => fm_gp hR hv g2 b u q hq)
          obtain ⟨s1, v1, v2⟩ := family_v (U := I3) (V := V) (si := s) (sj := m) (sq := sq) (a1 := mo) (a2 := left) (by rw [e5]; exact h5) hN (by rw [e4]; exact h4) hL rowk g2 hM
          rw [cnt] at v1 v2
          have h14 := hf' (g i) g2 b
          rw [if_pos u, if_pos z, v1, bnI_mk, h14]
          have cl := cbN_le (f := gpB A0 B0 (g i)) N
          have fl : fLot (R 13) (Int32.ofNat (cbN (gpB A0 B0 (g i)) N)) 0 L = fLot (frE (s 384) N) (Int32.ofNat (cbN (gpB A0 B0 (g i)) N)) 0 L := fLot_cg L 0 (fun l _ h2 => hg' l (by omega))
          have s411 : s1 411 = s 411 := v2.1 411 (by decide) (by decide)
          -- what both sides come to
          have fin : ∀ (v : Int32) (R0 : Nat → Nat → Int32), (v = -1 ∨ ∃ j, j < L ∧ v = Int32.ofNat j) → (∀ t, t ≠ 13 → R0 t = R t) → (R0 13 = (if v = -1 then R 13 else upd (R 13) v.toNatClampNeg (R 13 v.toNatClampNeg - Int32.ofNat (cbN (gpB A0 B0 (g i)) N)))) → FMW s s1 N (g i) (if v = -1 then none else some (100 + v)) → ∃ R' s' : Nat → Nat → Int32, g_X0_board_331_K137 mo left x2 (g_X0_board_331_L43 so xN mo I J rj rq n) (rw0 i) xg v R0 = (I, J, R', rj, rq) ∧ g_X12_boatsGo_L142 mo V sq I3 xK m nm (left - (if v = -1 then 0 else Int32.ofNat (cbN (gpB A0 B0 (g i)) N))) (y2 + Int32.ofInt 1) s1 = (I3, V, s', m, sq) ∧ INVb A0 B0 g N L N R' s' := fun v R0 hv1 hR0 hR13 hFM => by
            obtain ⟨R1, w1, w2, w3, w4⟩ := k137_v (a4 := mo) (x1 := left) (x2 := x2) (v := v) (k := g_X0_board_331_L43 so xN mo I J rj rq n) (R := R0) g1 gn
            rw [hR0 14 (by decide), h14] at w1
            rw [hR0 15 (by decide)] at w3
            rw [hR0 5 (by decide)] at w4
            rw [w1]
            exact ih (i + 1) _ _ R1 s1 (k + 1) nm _ nx (by omega) (by omega) ny (by omega) (by omega) hK nf ((w2 331 (by decide) (by decide) (by decide)).trans ((hR0 331 (by decide)).trans h331)) ((w2 1 (by decide) (by decide) (by decide)).trans ((hR0 1 (by decide)).trans h1)) (s411.trans h411) (inv_d hR hN hL rfl g2 b hnew hv u hv1 w3 w4 ((w2 14 (by decide) (by decide) (by decide)).trans (hR0 14 (by decide))) ((w2 13 (by decide) (by decide) (by decide)).trans hR13) hFM)
          by_cases q : left < Int32.ofNat (cbN (gpB A0 B0 (g i)) N)
          · rw [if_pos q, if_pos (Or.inl q)]
            rw [if_pos (Or.inl q)] at v2
            have := fin (-1) R (Or.inl rfl) (fun _ _ => rfl) (by rw [if_pos rfl]) (by rw [if_pos rfl]; exact v2)
            rw [if_pos (show (-1 : Int32) = -1 from rfl)] at this
            exact this
          · rw [if_neg q]
            obtain ⟨R2, t1, t2, t3, t4⟩ := takeLot_v (I := I) (J := J) (ri := R) (rj := rj) (rq := rq) (a0 := Int32.ofNat (cbN (gpB A0 B0 (g i)) N)) hI10 hL
            rw [t1, bnI_mk]
            rw [fl] at t3 t4 ⊢
            generalize fLot (frE (s 384) N) (Int32.ofNat (cbN (gpB A0 B0 (g i)) N)) 0 L = j at t3 t4 v2 ⊢
            by_cases w : j < L
            · have jn := ofN_ne (j := j) (by omega)
              have nq : ¬ (left < Int32.ofNat (cbN (gpB A0 B0 (g i)) N) ∨ L ≤ j) := fun y => by
                rcases y with y | y
                · exact q y
                · omega
              rw [if_neg nq] at v2
              rw [if_pos w, if_neg nq]
              have := fin (Int32.ofNat j) R2 (Or.inr ⟨j, w, rfl⟩) t2 (by rw [if_neg jn.1, at_n (ofN_t (by omega))]; exact t4 w) (by rw [if_neg jn.1]; exact v2)
              rw [if_neg jn.1] at this
              exact this
            · have yq : left < Int32.ofNat (cbN (gpB A0 B0 (g i)) N) ∨ L ≤ j := Or.inr (by omega)
              rw [if_pos yq] at v2
              rw [if_neg w, if_pos yq]
              have := fin (-1) R2 (Or.inl rfl) t2 (by rw [if_pos rfl, t3 (by omega)]) (by rw [if_pos rfl]; exact v2)
              rw [if_pos (show (-1 : Int32) = -1 from rfl)] at this
              exact this
        · -- its group has been asked
          have z : ¬ s 412 (g i) = 0 := fun y => u (hz.mp y).2
          rw [if_neg u, if_neg z]
          obtain ⟨R1, w1, w2, w3⟩ := k165_v (a4 := mo) (x2 := x2) (left := left) (k := g_X0_board_331_L43 so xN mo I J rj rq n) (R := R) g1 gn
          rw [w1]
          have r15 : R1 15 = R 15 := w2 15 (by decide) (by decide)
          have mem : ∀ q, q ∈ dl g (i + 1) ↔ q = g i ∨ q ∈ dl g i := fun q => by
            show q ∈ g i :: dl g i ↔ _
            exact List.mem_cons
          have r5n : ∀ q, q ≠ g i → R1 5 q = R 5 q := fun q e => by
            rw [w3]
            split
            · rfl
            · exact upd_n _ _ e
          refine ih (i + 1) _ _ R1 s (k + 1) nm _ nx (by omega) (by omega) ny (by omega) (by omega) hK nf ((w2 331 (by decide) (by decide)).trans h331) ((w2 1 (by decide) (by decide)).trans h1) h411 ⟨fun q hq b2 hm => ?_, fun q hq b2 hm => ?_, fun q hq nb => ⟨?_, (hc q hq nb).2⟩, ?_, ?_, ?_, ?_, ?_, hk'⟩
          · rw [r5n q (fun y => hm ((mem q).mpr (Or.inl y)))]
            exact ha q hq b2 (fun y => hm ((mem q).mpr (Or.inr y)))
          · rw [r15]
            by_cases e : q = g i
            · rw [e]
              refine ⟨u, ?_⟩
              rw [w3]
              unfold pvL
              by_cases y : R 15 (giN A0 (g i)) = -1
              · rw [if_pos y, if_pos y]
                exact h5P
              · rw [if_neg y, if_neg y, upd_s]
            · rw [r5n q e]
              exact hb' q hq b2 (by
                rcases (mem q).mp hm with y | y
                · exact absurd y e
                · exact y)
          · rw [r5n q (fun y => nb (by rw [y]; exact ⟨g2, b⟩))]
            exact (hc q hq nb).1
          · rw [r15]; exact hd
          · rw [r15]; exact he
          · rw [w2 14 (by decide) (by decide)]; exact hf'
          · rw [w2 13 (by decide) (by decide)]; exact hg'
          · rw [r15]; exact hh
      · -- one who may not
        have mem : ∀ q, q ∈ dl g (i + 1) ↔ q = g i ∨ q ∈ dl g i := fun q => by
          show q ∈ g i :: dl g i ↔ _
          exact List.mem_cons
        rw [if_neg b, if_pos (show (0 : Int32) = 0 from rfl), g_X0_board_331_K202_e]
        simp only [↓ap1_n]
        refine ih (i + 1) _ left R s k (nm + 1) y2 nx (by omega) (by omega) hy hnm hk hK ?_ h331 h1 h411 ⟨fun q hq b2 hm => ha q hq b2 (fun y => hm ((mem q).mpr (Or.inr y))), fun q hq b2 hm => hb' q hq b2 ?_, hc, hd, he, hf', hg', hh, hk'⟩
        · show List.filter B0 (g i :: dl g i) = dl r k
          rw [List.filter_cons_of_neg b]
          exact hf
        · rcases (mem q).mp hm with y | y
          · rw [y] at b2
            exact absurd b2 b
          · exact y
end PK9
