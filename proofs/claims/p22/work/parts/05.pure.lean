/-! ===== one list of words for all ===== -/
abbrev wa (y : MethodName) (c : ByteArray) (n : Nat) (r : Option FieldType) : List Cond := .code y c n r :: wsL_law
theorem tw_c {w a : Cond} (h : w ∈ wsL_law) : w ∈ (a :: wsL_law) := List.mem_cons_of_mem _ h
theorem tw_i {ws : List Cond} {a : Cond} (h : ∀ w ∈ ws, w ∈ wsL_law) : ∀ w ∈ ws, w ∈ (a :: wsL_law) := fun w hw => List.mem_cons_of_mem _ (h w hw)
theorem tw_good : wsL_law.all goodWord = true := by decide +kernel
theorem tw_g1 {w a : Cond} (h : w ∈ wsL_law) : w ∈ (a :: wsL_law) ∧ ((w.onTables && w.keeps) = true ∨ ∃ ty, w = .arrayClass ty) := ⟨tw_c h, good_of_word (List.all_eq_true.mp tw_good w h)⟩
theorem tw_W {a : Cond} {y : MethodName} {c : ByteArray} {n : Nat} {r : Option FieldType} (h5 : Cond.code y c n r ∈ wsL_law) : GoodIn (a :: wsL_law) (wa y c n r) := fun w hw => tw_g1 ((List.mem_cons.mp hw).elim (fun e => e ▸ h5) id)
theorem tw_V {a : Cond} {own C : String} {idx : Nat} {y : MethodName} {c : ByteArray} {n : Nat} {r : Option FieldType} (h1 : Cond.methodLink own idx y ∈ wsL_law) (h2 : Cond.instanceMethod y ∈ wsL_law) (h3 : Cond.selects C y y ∈ wsL_law) (h4 : Cond.initialized C ∈ wsL_law) (h5 : Cond.code y c n r ∈ wsL_law) : GoodIn (a :: wsL_law) (wsV own idx C y (wa y c n r)) := by
  intro w hw
  unfold wsV at hw
  rcases List.mem_append.mp hw with h | h
  · simp only [List.mem_cons, List.not_mem_nil, or_false] at h
    rcases h with rfl | rfl | rfl | rfl
    · exact tw_g1 h1
    · exact tw_g1 h2
    · exact tw_g1 h3
    · exact tw_g1 h4
  · exact tw_W h5 w h
theorem tw_S {a : Cond} {own : String} {idx : Nat} {y : MethodName} {c : ByteArray} {n : Nat} {r : Option FieldType} (h1 : Cond.methodLink own idx y ∈ wsL_law) (h2 : Cond.static y ∈ wsL_law) (h4 : Cond.initialized y.cls ∈ wsL_law) (h5 : Cond.code y c n r ∈ wsL_law) : GoodIn (a :: wsL_law) (va_wsS own idx y (wa y c n r)) := by
  intro w hw
  unfold va_wsS at hw
  rcases List.mem_append.mp hw with h | h
  · simp only [List.mem_cons, List.not_mem_nil, or_false] at h
    rcases h with rfl | rfl | rfl
    · exact tw_g1 h1
    · exact tw_g1 h2
    · exact tw_g1 h4
  · exact tw_W h5 w h
/-! ===== plain facts ===== -/
theorem sw_ne {x k : Int32} (h : ¬ x = k) {n : Int} (e : k.toInt = n) : x.toInt ≠ n := fun q => h (Int32.toInt_inj.mp (q.trans e.symm))
theorem nq_le {a b : Nat} (ha : a < 2 ^ 31) (hb : b < 2 ^ 31) (h : nI a ≤ nI b) : a ≤ b := (nI_leI ha hb).mp h
theorem nq_nle {a b : Nat} (ha : a < 2 ^ 31) (hb : b < 2 ^ 31) (h : ¬ nI a ≤ nI b) : b < a := Nat.not_le.mp fun q => h ((nI_leI ha hb).mpr q)