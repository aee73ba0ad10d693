/-! ===== one list of words for all ===== -/
abbrev wa (y : MethodName) (c : ByteArray) (n : Nat) (r : Option FieldType) : List Cond := .code y c n r :: wsL_law
theorem tw_c {w a : Cond} (h : w ∈ wsL_law) : w ∈ (a :: wsL_law) := List.mem_cons_of_mem _ h
theorem tw_i {ws : List Cond} {a : Cond} (h : ∀ w ∈ ws, w ∈ wsL_law) : ∀ w ∈ ws, w ∈ (a :: wsL_law) := fun w hw => List.mem_cons_of_mem _ (h w hw)
theorem tw_good : wsL_law.all goodWord = true := by decide +kernel
theorem tw_g1 {w a : Cond} (h : w ∈ wsL_law) : w ∈ (a :: wsL_law) ∧ ((w.onTables && w.keeps) = true ∨ ∃ ty, w = .arrayClass ty) := ⟨tw_c h, good_of_word (List.all_eq_true.mp tw_good w h)⟩
theorem tw_W {a : Cond} {y : MethodName} {c : ByteArray} {n : Nat} {r : Option FieldType} (h5 : Cond.code y c n r ∈ wsL_law) : GoodIn (a :: wsL_law) (wa y c n r) := fun w hw => tw_g1 ((List.mem_cons.mp hw).elim (fun e => e ▸ h5) id)
theorem tw_V {a : Cond} {own C : String} {idx : Nat} {y : MethodName} {c : ByteArray} {n : Nat} {r : Option FieldType} (h1 : Cond.methodLink own idx y ∈ wsL_law) (h2 : Cond.instanceMethod y ∈ wsL_law) (h3 : Cond.selects C y y ∈ wsL_law) (h4 : Cond.initialized C ∈ wsL_law) (h5 : Cond.code y c n r ∈ wsL_law) : GoodIn (a :: wsL_law) (wsV own idx C y (wa y c n r)) := by
  intro w hw
  unfold wsV at hw
  rcases List.mem_append.mp hw with h | h
  · simp only [List.mem_cons, List.not_mem_nil, or_false] at h
    rcases h with rfl | rfl | rfl | rfl
    · exact tw_g1 h1
    · exact tw_g1 h2
    · exact tw_g1 h3
    · exact tw_g1 h4
  · exact tw_W h5 w h
theorem tw_S {a : Cond} {own : String} {idx : Nat} {y : MethodName} {c : ByteArray} {n : Nat} {r : Option FieldType} (h1 : Cond.methodLink own idx y ∈ wsL_law) (h2 : Cond.static y ∈ wsL_law) (h4 : Cond.initialized y.cls ∈ wsL_law) (h5 : Cond.code y c n r ∈ wsL_law) : GoodIn (a :: wsL_law) (va_wsS own idx y (wa y c n r)) := by
  intro w hw
  unfold va_wsS at hw
  rcases List.mem_append.mp hw with h | h
  · simp only [List.mem_cons, List.not_mem_nil, or_false] at h
    rcases h with rfl | rfl | rfl
    · exact tw_g1 h1
    · exact tw_g1 h2
    · exact tw_g1 h4
  · exact tw_W h5 w h
/-! ===== plain facts ===== -/
def pq_zl : List Nat := [0, 10, 32, 64, 65, 66, 96, 98, 164, 193, 224, 321, 322]
def pq_Z (I : Nat → Nat → Int32) : Prop := ∀ g ∈ pq_zl, I g = fun _ => 0
theorem pq_Zp {I I1 : Nat → Nat → Int32} {f a : Nat} {v : Int32} (h : pq_Z I) (e : I1 = pq_u I f a v) (hf : f ∉ pq_zl) : pq_Z I1 := by
  intro g hg
  have hne : g ≠ f := fun q => hf (by rw [← q]; exact hg)
  rw [e, pq_uf _ _ _ hne]
  exact h g hg
theorem pq_Zf {I I1 : Nat → Nat → Int32} {ms : List Nat} (h : pq_Z I) (e : ∀ f, f ∉ ms → I1 f = I f) (hf : ∀ g ∈ pq_zl, g ∉ ms) : pq_Z I1 := by
  intro g hg
  rw [e g (hf g hg)]
  exact h g hg
theorem bt_no {v lo hi : Int32} (h1 : lo ≤ v) (h2 : v ≤ hi) (h : hi < lo) : False := by
  rw [Int32.le_iff_toInt_le] at h1 h2
  rw [Int32.lt_iff_toInt_lt] at h
  omega
theorem in_of {v hi : Int32} {n : Nat} (h0 : 0 ≤ v) (h1 : v ≤ hi) (hh : hi.toInt < n) : vp_in v n := by
  rw [Int32.le_iff_toInt_le] at h0 h1
  have : (0 : Int32).toInt = 0 := rfl
  exact vp_in_iff.mpr ⟨by omega, by omega⟩
theorem sw_ne {x k : Int32} (h : ¬ x = k) {n : Int} (e : k.toInt = n) : x.toInt ≠ n := fun q => h (Int32.toInt_inj.mp (q.trans e.symm))
theorem nl_of {x y : Int32} (h : ¬ x < y) : y ≤ x := Int32.not_lt.mp h
theorem bt_c1 {v lo hi : Int32} (h : v < lo) : ¬ (lo ≤ v ∧ v ≤ hi) := fun q => absurd h (Int32.not_lt.mpr q.1)
theorem bt_c2 {v lo hi : Int32} (h : hi < v) : ¬ (lo ≤ v ∧ v ≤ hi) := fun q => absurd h (Int32.not_lt.mpr q.2)
theorem in_of2 {v hi : Int32} {n : Nat} (h0 : ¬ v < 0) (h1 : ¬ hi ≤ v) (hh : hi.toInt ≤ n) : vp_in v n := by
  rw [Int32.lt_iff_toInt_lt] at h0
  rw [Int32.le_iff_toInt_le] at h1
  have : (0 : Int32).toInt = 0 := rfl
  exact vp_in_iff.mpr ⟨by omega, by omega⟩
theorem nI_rg {n lo hi : Int32} (h0 : lo ≤ n) (h1 : n ≤ hi) (h2 : 0 ≤ lo.toInt) : ∃ k : Nat, n = nI k ∧ lo.toInt ≤ k ∧ (k : Int) ≤ hi.toInt := by
  rw [Int32.le_iff_toInt_le] at h0 h1
  refine ⟨n.toInt.toNat, ?_, by omega, by omega⟩
  have h3 : n.toInt.toNat < 2 ^ 31 := by have := Int32.toInt_lt n; omega
  apply Int32.toInt_inj.mp
  rw [nI_toInt h3]
  omega
theorem nq_lt {a b : Nat} (ha : a < 2 ^ 31) (hb : b < 2 ^ 31) (h : nI a < nI b) : a < b := (nI_ltI ha hb).mp h
theorem nq_nlt {a b : Nat} (ha : a < 2 ^ 31) (hb : b < 2 ^ 31) (h : ¬ nI a < nI b) : b ≤ a := Nat.not_lt.mp fun q => h ((nI_ltI ha hb).mpr q)
theorem nq_le {a b : Nat} (ha : a < 2 ^ 31) (hb : b < 2 ^ 31) (h : nI a ≤ nI b) : a ≤ b := (nI_leI ha hb).mp h
theorem nq_nle {a b : Nat} (ha : a < 2 ^ 31) (hb : b < 2 ^ 31) (h : ¬ nI a ≤ nI b) : b < a := Nat.not_le.mp fun q => h ((nI_leI ha hb).mpr q)
theorem pq_f1 {ri0 r r1 : Nat → Nat → Int32} {a i : Nat} {v : Int32} (h : (∀ j, j < i → r a j = v) ∧ ∀ b, b ≠ a → r b = ri0 b) (hi : i < 2 ^ 31) (e : r1 = va_up r a (upd (r a) (nI i).toNatClampNeg v)) : (∀ j, j < i + 1 → r1 a j = v) ∧ ∀ b, b ≠ a → r1 b = ri0 b := by
  subst e
  rw [nI_clamp hi]
  refine ⟨fun j hj => ?_, fun b hb => ?_⟩
  · rw [va_up_self]
    unfold upd
    split
    · rfl
    · exact h.1 j (by omega)
  · rw [va_up_ne _ _ hb]
    exact h.2 b hb
