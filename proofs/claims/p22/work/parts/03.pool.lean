/-! ===== my own pool: the cells of one side by their addresses: shape (addresses, kinds, references, lengths) and contents ===== -/
abbrev pq_T : Type := ClassId × ClassId × ClassId × ClassId
abbrev pq_S : Type := List Nat × (Nat → Nat) × (Nat → Nat → Option Nat) × (Nat → Nat)
abbrev pq_M : Type := (Nat → Nat → Int32) × (Nat → Nat → Int64) × (Nat → Nat → Int32) × (Nat → Nat → Int64) × (Nat → Nat → Option Nat)
def pq_fl (R : Nat → Nat → Option Nat) (I : Nat → Nat → Int32) (J : Nat → Nat → Int64) (k a : Nat) : List Value := match k with
  | 0 => [.int (I 0 a), va_rf (R 1 a), va_rf (R 2 a), va_rf (R 3 a), va_rf (R 4 a), va_rf (R 5 a), va_rf (R 6 a), va_rf (R 7 a), va_rf (R 8 a), va_rf (R 9 a), .int (I 10 a), va_rf (R 11 a), va_rf (R 12 a), va_rf (R 13 a), va_rf (R 14 a), va_rf (R 15 a)]
  | 1 => [.int (I 32 a), va_rf (R 33 a), va_rf (R 34 a)]
  | 2 => [.int (I 64 a), .int (I 65 a), .int (I 66 a), .long (J 67 a), va_rf (R 68 a), va_rf (R 69 a), va_rf (R 70 a), va_rf (R 71 a), va_rf (R 72 a), va_rf (R 73 a), va_rf (R 74 a), va_rf (R 75 a), va_rf (R 76 a), va_rf (R 77 a), va_rf (R 78 a), va_rf (R 79 a), va_rf (R 80 a), va_rf (R 81 a), va_rf (R 82 a), va_rf (R 83 a)]
  | 3 => [.int (I 96 a), va_rf (R 97 a), .int (I 98 a), va_rf (R 99 a), va_rf (R 100 a), va_rf (R 101 a), va_rf (R 102 a), va_rf (R 103 a)]
  | 4 => [va_rf (R 128 a), .int (I 129 a), .int (I 130 a), va_rf (R 131 a), .int (I 132 a), va_rf (R 133 a), .int (I 134 a), .int (I 135 a), .int (I 136 a), .int (I 137 a), .int (I 138 a), .int (I 139 a)]
  | 5 => [.int (I 160 a), va_rf (R 161 a), va_rf (R 162 a), va_rf (R 163 a), .int (I 164 a), va_rf (R 165 a), va_rf (R 166 a), va_rf (R 167 a)]
  | 6 => [va_rf (R 192 a), .int (I 193 a), .int (I 194 a), .int (I 195 a), .int (I 196 a), .int (I 197 a)]
  | 7 => [.int (I 224 a), va_rf (R 225 a), va_rf (R 226 a), va_rf (R 227 a), va_rf (R 228 a), va_rf (R 229 a), va_rf (R 230 a), va_rf (R 231 a), va_rf (R 232 a), va_rf (R 233 a), .int (I 234 a), .int (I 235 a), .int (I 236 a), .int (I 237 a), .int (I 238 a)]
  | 8 => [.int (I 256 a), va_rf (R 257 a), va_rf (R 258 a), va_rf (R 259 a)]
  | 9 => [va_rf (R 288 a), va_rf (R 289 a), va_rf (R 290 a)]
  | 10 => [.int (I 320 a), .int (I 321 a), .int (I 322 a), .int (I 323 a), .int (I 324 a), va_rf (R 325 a), va_rf (R 326 a), va_rf (R 327 a), va_rf (R 328 a), va_rf (R 329 a), va_rf (R 330 a), va_rf (R 331 a), va_rf (R 332 a)]
  | 11 => [va_rf (R 352 a), va_rf (R 353 a), va_rf (R 354 a), va_rf (R 355 a), va_rf (R 356 a)]
  | 12 => [va_rf (R 384 a), va_rf (R 385 a), va_rf (R 386 a), va_rf (R 387 a), .int (I 388 a), .int (I 389 a), .int (I 390 a), .int (I 391 a), .int (I 392 a), .int (I 393 a), .int (I 394 a), .long (J 395 a), .int (I 396 a), .int (I 397 a), .int (I 398 a), .int (I 399 a), va_rf (R 400 a), .int (I 401 a), .int (I 402 a), .int (I 403 a), va_rf (R 404 a), va_rf (R 405 a), .int (I 406 a), .int (I 407 a), va_rf (R 408 a), va_rf (R 409 a), .int (I 410 a), va_rf (R 411 a), va_rf (R 412 a), va_rf (R 413 a), va_rf (R 414 a)]
  | _ => []
def pq_E (t : pq_T) (σ : pq_S) (μ : pq_M) (a : Nat) : va_E := match σ.2.1 a with
  | 13 => .inl (t.1, σ.2.2.2 a, .inl (μ.2.2.1 a))
  | 14 => .inl (t.2.1, σ.2.2.2 a, .inr (.inl (μ.2.2.2.1 a)))
  | 15 => .inl (t.2.2.1, σ.2.2.2 a, .inl (μ.2.2.1 a))
  | 16 => .inl (t.2.2.2, σ.2.2.2 a, .inr (.inr (.inr (.inr (μ.2.2.2.2 a)))))
  | k => .inr (k, pq_fl σ.2.2.1 μ.1 μ.2.1 k a)
def pq_P (t : pq_T) (σ : pq_S) (μ : pq_M) : va_W := va_pl σ.1 (pq_E t σ μ)
def pq_u {α : Type} (I : Nat → Nat → α) (f a : Nat) (v : α) : Nat → Nat → α := fun g => if g = f then va_up (I g) a v else I g
theorem pq_us {α : Type} (I : Nat → Nat → α) (f a : Nat) (v : α) : pq_u I f a v f a = v := by simp [pq_u, va_up]
theorem pq_ua {α : Type} (I : Nat → Nat → α) (f : Nat) {a b : Nat} (v : α) (g : Nat) (h : b ≠ a) : pq_u I f a v g b = I g b := by
  unfold pq_u
  split
  · exact va_up_ne _ _ h
  · rfl
theorem pq_uf {α : Type} (I : Nat → Nat → α) {f g : Nat} (a : Nat) (v : α) (h : g ≠ f) : pq_u I f a v g = I g := by simp [pq_u, h]
def pq_ty (t : pq_T) : List (ClassId × FieldType) := [(t.1, .int), (t.2.1, .long), (t.2.2.1, .boolean), (t.2.2.2, .object "RingsUnder$Text")]
theorem pq_o {t : pq_T} {σ : pq_S} {μ : pq_M} {a k : Nat} (hk : k < 13) (h : σ.2.1 a = k) : pq_E t σ μ a = .inr (k, pq_fl σ.2.2.1 μ.1 μ.2.1 k a) := by
  unfold pq_E
  rw [h]
  have h2 : k = 0 ∨ k = 1 ∨ k = 2 ∨ k = 3 ∨ k = 4 ∨ k = 5 ∨ k = 6 ∨ k = 7 ∨ k = 8 ∨ k = 9 ∨ k = 10 ∨ k = 11 ∨ k = 12 := by omega
  rcases h2 with h2 | h2 | h2 | h2 | h2 | h2 | h2 | h2 | h2 | h2 | h2 | h2 | h2 <;> subst h2 <;> rfl
theorem pq_oI {t : pq_T} {σ : pq_S} {μ : pq_M} {a : Nat} (h : σ.2.1 a = 13) : pq_E t σ μ a = .inl (t.1, σ.2.2.2 a, .inl (μ.2.2.1 a)) := by unfold pq_E; rw [h]; rfl
theorem pq_oJ {t : pq_T} {σ : pq_S} {μ : pq_M} {a : Nat} (h : σ.2.1 a = 14) : pq_E t σ μ a = .inl (t.2.1, σ.2.2.2 a, .inr (.inl (μ.2.2.2.1 a))) := by unfold pq_E; rw [h]; rfl
theorem pq_oZ {t : pq_T} {σ : pq_S} {μ : pq_M} {a : Nat} (h : σ.2.1 a = 15) : pq_E t σ μ a = .inl (t.2.2.1, σ.2.2.2 a, .inl (μ.2.2.1 a)) := by unfold pq_E; rw [h]; rfl
theorem pq_oQ {t : pq_T} {σ : pq_S} {μ : pq_M} {a : Nat} (h : σ.2.1 a = 16) : pq_E t σ μ a = .inl (t.2.2.2, σ.2.2.2 a, .inr (.inr (.inr (.inr (μ.2.2.2.2 a))))) := by unfold pq_E; rw [h]; rfl
theorem pq_in {t : pq_T} {σ : pq_S} {μ : pq_M} {a : Nat} (h : a ∈ σ.1) : ∃ k : Nat, (pq_P t σ μ)[k]? = some (a, pq_E t σ μ a) := va_pl_get (X := []) h
theorem pq_set {A : Nat → Prop} {t : pq_T} {σ : pq_S} {μ μ1 : pq_M} {a q : Nat} {e : va_E} (hD : va_D A (pq_P t σ μ)) (h : a ∈ σ.1) (hq : (pq_P t σ μ)[q]? = some (a, pq_E t σ μ a)) (h1 : pq_E t σ μ1 a = e) (h2 : ∀ b, b ≠ a → pq_E t σ μ1 b = pq_E t σ μ b) : (pq_P t σ μ).set q (a, e) = pq_P t σ μ1 := by
  have h3 := va_pl_set (X := []) (e := e) hD h hq
  refine h3.trans ?_
  show va_pl _ _ = va_pl _ _
  refine va_pl_congr (fun b => ?_)
  by_cases hb : b = a
  · subst hb
    rw [va_up_self, h1]
  · rw [va_up_ne _ _ hb, h2 b hb]
theorem pq_flI {R : Nat → Nat → Option Nat} {I : Nat → Nat → Int32} {J : Nat → Nat → Int64} {k a b f : Nat} {v : Int32} (h : b ≠ a) : pq_fl R (pq_u I f a v) J k b = pq_fl R I J k b := by
  unfold pq_fl
  split <;> simp only [pq_ua _ _ _ _ h]
theorem pq_flJ {R : Nat → Nat → Option Nat} {I : Nat → Nat → Int32} {J : Nat → Nat → Int64} {k a b f : Nat} {v : Int64} (h : b ≠ a) : pq_fl R I (pq_u J f a v) k b = pq_fl R I J k b := by
  unfold pq_fl
  split <;> simp only [pq_ua _ _ _ _ h]
theorem pq_EI {t : pq_T} {σ : pq_S} {I : Nat → Nat → Int32} {J : Nat → Nat → Int64} {r : (Nat → Nat → Int32) × (Nat → Nat → Int64) × (Nat → Nat → Option Nat)} {a b f : Nat} {v : Int32} (h : b ≠ a) : pq_E t σ (pq_u I f a v, J, r) b = pq_E t σ (I, J, r) b := by
  unfold pq_E
  split <;> simp only [pq_flI h]
theorem pq_EJ {t : pq_T} {σ : pq_S} {I : Nat → Nat → Int32} {J : Nat → Nat → Int64} {r : (Nat → Nat → Int32) × (Nat → Nat → Int64) × (Nat → Nat → Option Nat)} {a b f : Nat} {v : Int64} (h : b ≠ a) : pq_E t σ (I, pq_u J f a v, r) b = pq_E t σ (I, J, r) b := by
  unfold pq_E
  split <;> simp only [pq_flJ h]
theorem pq_Ea {t : pq_T} {σ : pq_S} {I : Nat → Nat → Int32} {J : Nat → Nat → Int64} {ri : Nat → Nat → Int32} {r : (Nat → Nat → Int64) × (Nat → Nat → Option Nat)} {a b : Nat} {v : Nat → Int32} (h : b ≠ a) : pq_E t σ (I, J, va_up ri a v, r) b = pq_E t σ (I, J, ri, r) b := by
  unfold pq_E
  split <;> simp only [va_up_ne _ _ h]
theorem pq_Eb {t : pq_T} {σ : pq_S} {I : Nat → Nat → Int32} {J : Nat → Nat → Int64} {ri : Nat → Nat → Int32} {rj : Nat → Nat → Int64} {rq : Nat → Nat → Option Nat} {a b : Nat} {v : Nat → Int64} (h : b ≠ a) : pq_E t σ (I, J, ri, va_up rj a v, rq) b = pq_E t σ (I, J, ri, rj, rq) b := by
  unfold pq_E
  split <;> simp only [va_up_ne _ _ h]

theorem ps_0 (R : Nat → Nat → Option Nat) (I : Nat → Nat → Int32) (J : Nat → Nat → Int64) (a : Nat) (v : Int32) : pq_fl R (pq_u I 0 a v) J 0 a = (pq_fl R I J 0 a).set 0 (.int v) := by simp [pq_fl, pq_u, va_up]
theorem ps_10 (R : Nat → Nat → Option Nat) (I : Nat → Nat → Int32) (J : Nat → Nat → Int64) (a : Nat) (v : Int32) : pq_fl R (pq_u I 10 a v) J 0 a = (pq_fl R I J 0 a).set 10 (.int v) := by simp [pq_fl, pq_u, va_up]
theorem ps_32 (R : Nat → Nat → Option Nat) (I : Nat → Nat → Int32) (J : Nat → Nat → Int64) (a : Nat) (v : Int32) : pq_fl R (pq_u I 32 a v) J 1 a = (pq_fl R I J 1 a).set 0 (.int v) := by simp [pq_fl, pq_u, va_up]
theorem ps_64 (R : Nat → Nat → Option Nat) (I : Nat → Nat → Int32) (J : Nat → Nat → Int64) (a : Nat) (v : Int32) : pq_fl R (pq_u I 64 a v) J 2 a = (pq_fl R I J 2 a).set 0 (.int v) := by simp [pq_fl, pq_u, va_up]
theorem ps_65 (R : Nat → Nat → Option Nat) (I : Nat → Nat → Int32) (J : Nat → Nat → Int64) (a : Nat) (v : Int32) : pq_fl R (pq_u I 65 a v) J 2 a = (pq_fl R I J 2 a).set 1 (.int v) := by simp [pq_fl, pq_u, va_up]
theorem ps_66 (R : Nat → Nat → Option Nat) (I : Nat → Nat → Int32) (J : Nat → Nat → Int64) (a : Nat) (v : Int32) : pq_fl R (pq_u I 66 a v) J 2 a = (pq_fl R I J 2 a).set 2 (.int v) := by simp [pq_fl, pq_u, va_up]
theorem ps_67 (R : Nat → Nat → Option Nat) (I : Nat → Nat → Int32) (J : Nat → Nat → Int64) (a : Nat) (v : Int64) : pq_fl R I (pq_u J 67 a v) 2 a = (pq_fl R I J 2 a).set 3 (.long v) := by simp [pq_fl, pq_u, va_up]
theorem ps_96 (R : Nat → Nat → Option Nat) (I : Nat → Nat → Int32) (J : Nat → Nat → Int64) (a : Nat) (v : Int32) : pq_fl R (pq_u I 96 a v) J 3 a = (pq_fl R I J 3 a).set 0 (.int v) := by simp [pq_fl, pq_u, va_up]
theorem ps_98 (R : Nat → Nat → Option Nat) (I : Nat → Nat → Int32) (J : Nat → Nat → Int64) (a : Nat) (v : Int32) : pq_fl R (pq_u I 98 a v) J 3 a = (pq_fl R I J 3 a).set 2 (.int v) := by simp [pq_fl, pq_u, va_up]
theorem ps_129 (R : Nat → Nat → Option Nat) (I : Nat → Nat → Int32) (J : Nat → Nat → Int64) (a : Nat) (v : Int32) : pq_fl R (pq_u I 129 a v) J 4 a = (pq_fl R I J 4 a).set 1 (.int v) := by simp [pq_fl, pq_u, va_up]
theorem ps_130 (R : Nat → Nat → Option Nat) (I : Nat → Nat → Int32) (J : Nat → Nat → Int64) (a : Nat) (v : Int32) : pq_fl R (pq_u I 130 a v) J 4 a = (pq_fl R I J 4 a).set 2 (.int v) := by simp [pq_fl, pq_u, va_up]
theorem ps_132 (R : Nat → Nat → Option Nat) (I : Nat → Nat → Int32) (J : Nat → Nat → Int64) (a : Nat) (v : Int32) : pq_fl R (pq_u I 132 a v) J 4 a = (pq_fl R I J 4 a).set 4 (.int v) := by simp [pq_fl, pq_u, va_up]
theorem ps_134 (R : Nat → Nat → Option Nat) (I : Nat → Nat → Int32) (J : Nat → Nat → Int64) (a : Nat) (v : Int32) : pq_fl R (pq_u I 134 a v) J 4 a = (pq_fl R I J 4 a).set 6 (.int v) := by simp [pq_fl, pq_u, va_up]
theorem ps_135 (R : Nat → Nat → Option Nat) (I : Nat → Nat → Int32) (J : Nat → Nat → Int64) (a : Nat) (v : Int32) : pq_fl R (pq_u I 135 a v) J 4 a = (pq_fl R I J 4 a).set 7 (.int v) := by simp [pq_fl, pq_u, va_up]
theorem ps_136 (R : Nat → Nat → Option Nat) (I : Nat → Nat → Int32) (J : Nat → Nat → Int64) (a : Nat) (v : Int32) : pq_fl R (pq_u I 136 a v) J 4 a = (pq_fl R I J 4 a).set 8 (.int v) := by simp [pq_fl, pq_u, va_up]
theorem ps_137 (R : Nat → Nat → Option Nat) (I : Nat → Nat → Int32) (J : Nat → Nat → Int64) (a : Nat) (v : Int32) : pq_fl R (pq_u I 137 a v) J 4 a = (pq_fl R I J 4 a).set 9 (.int v) := by simp [pq_fl, pq_u, va_up]
theorem ps_138 (R : Nat → Nat → Option Nat) (I : Nat → Nat → Int32) (J : Nat → Nat → Int64) (a : Nat) (v : Int32) : pq_fl R (pq_u I 138 a v) J 4 a = (pq_fl R I J 4 a).set 10 (.int v) := by simp [pq_fl, pq_u, va_up]
theorem ps_139 (R : Nat → Nat → Option Nat) (I : Nat → Nat → Int32) (J : Nat → Nat → Int64) (a : Nat) (v : Int32) : pq_fl R (pq_u I 139 a v) J 4 a = (pq_fl R I J 4 a).set 11 (.int v) := by simp [pq_fl, pq_u, va_up]
theorem ps_160 (R : Nat → Nat → Option Nat) (I : Nat → Nat → Int32) (J : Nat → Nat → Int64) (a : Nat) (v : Int32) : pq_fl R (pq_u I 160 a v) J 5 a = (pq_fl R I J 5 a).set 0 (.int v) := by simp [pq_fl, pq_u, va_up]
theorem ps_164 (R : Nat → Nat → Option Nat) (I : Nat → Nat → Int32) (J : Nat → Nat → Int64) (a : Nat) (v : Int32) : pq_fl R (pq_u I 164 a v) J 5 a = (pq_fl R I J 5 a).set 4 (.int v) := by simp [pq_fl, pq_u, va_up]
theorem ps_193 (R : Nat → Nat → Option Nat) (I : Nat → Nat → Int32) (J : Nat → Nat → Int64) (a : Nat) (v : Int32) : pq_fl R (pq_u I 193 a v) J 6 a = (pq_fl R I J 6 a).set 1 (.int v) := by simp [pq_fl, pq_u, va_up]
theorem ps_194 (R : Nat → Nat → Option Nat) (I : Nat → Nat → Int32) (J : Nat → Nat → Int64) (a : Nat) (v : Int32) : pq_fl R (pq_u I 194 a v) J 6 a = (pq_fl R I J 6 a).set 2 (.int v) := by simp [pq_fl, pq_u, va_up]
theorem ps_195 (R : Nat → Nat → Option Nat) (I : Nat → Nat → Int32) (J : Nat → Nat → Int64) (a : Nat) (v : Int32) : pq_fl R (pq_u I 195 a v) J 6 a = (pq_fl R I J 6 a).set 3 (.int v) := by simp [pq_fl, pq_u, va_up]
theorem ps_196 (R : Nat → Nat → Option Nat) (I : Nat → Nat → Int32) (J : Nat → Nat → Int64) (a : Nat) (v : Int32) : pq_fl R (pq_u I 196 a v) J 6 a = (pq_fl R I J 6 a).set 4 (.int v) := by simp [pq_fl, pq_u, va_up]
theorem ps_197 (R : Nat → Nat → Option Nat) (I : Nat → Nat → Int32) (J : Nat → Nat → Int64) (a : Nat) (v : Int32) : pq_fl R (pq_u I 197 a v) J 6 a = (pq_fl R I J 6 a).set 5 (.int v) := by simp [pq_fl, pq_u, va_up]
theorem ps_224 (R : Nat → Nat → Option Nat) (I : Nat → Nat → Int32) (J : Nat → Nat → Int64) (a : Nat) (v : Int32) : pq_fl R (pq_u I 224 a v) J 7 a = (pq_fl R I J 7 a).set 0 (.int v) := by simp [pq_fl, pq_u, va_up]
theorem ps_234 (R : Nat → Nat → Option Nat) (I : Nat → Nat → Int32) (J : Nat → Nat → Int64) (a : Nat) (v : Int32) : pq_fl R (pq_u I 234 a v) J 7 a = (pq_fl R I J 7 a).set 10 (.int v) := by simp [pq_fl, pq_u, va_up]
theorem ps_235 (R : Nat → Nat → Option Nat) (I : Nat → Nat → Int32) (J : Nat → Nat → Int64) (a : Nat) (v : Int32) : pq_fl R (pq_u I 235 a v) J 7 a = (pq_fl R I J 7 a).set 11 (.int v) := by simp [pq_fl, pq_u, va_up]
theorem ps_236 (R : Nat → Nat → Option Nat) (I : Nat → Nat → Int32) (J : Nat → Nat → Int64) (a : Nat) (v : Int32) : pq_fl R (pq_u I 236 a v) J 7 a = (pq_fl R I J 7 a).set 12 (.int v) := by simp [pq_fl, pq_u, va_up]
theorem ps_237 (R : Nat → Nat → Option Nat) (I : Nat → Nat → Int32) (J : Nat → Nat → Int64) (a : Nat) (v : Int32) : pq_fl R (pq_u I 237 a v) J 7 a = (pq_fl R I J 7 a).set 13 (.int v) := by simp [pq_fl, pq_u, va_up]
theorem ps_238 (R : Nat → Nat → Option Nat) (I : Nat → Nat → Int32) (J : Nat → Nat → Int64) (a : Nat) (v : Int32) : pq_fl R (pq_u I 238 a v) J 7 a = (pq_fl R I J 7 a).set 14 (.int v) := by simp [pq_fl, pq_u, va_up]
theorem ps_256 (R : Nat → Nat → Option Nat) (I : Nat → Nat → Int32) (J : Nat → Nat → Int64) (a : Nat) (v : Int32) : pq_fl R (pq_u I 256 a v) J 8 a = (pq_fl R I J 8 a).set 0 (.int v) := by simp [pq_fl, pq_u, va_up]
theorem ps_320 (R : Nat → Nat → Option Nat) (I : Nat → Nat → Int32) (J : Nat → Nat → Int64) (a : Nat) (v : Int32) : pq_fl R (pq_u I 320 a v) J 10 a = (pq_fl R I J 10 a).set 0 (.int v) := by simp [pq_fl, pq_u, va_up]
theorem ps_321 (R : Nat → Nat → Option Nat) (I : Nat → Nat → Int32) (J : Nat → Nat → Int64) (a : Nat) (v : Int32) : pq_fl R (pq_u I 321 a v) J 10 a = (pq_fl R I J 10 a).set 1 (.int v) := by simp [pq_fl, pq_u, va_up]
theorem ps_322 (R : Nat → Nat → Option Nat) (I : Nat → Nat → Int32) (J : Nat → Nat → Int64) (a : Nat) (v : Int32) : pq_fl R (pq_u I 322 a v) J 10 a = (pq_fl R I J 10 a).set 2 (.int v) := by simp [pq_fl, pq_u, va_up]
theorem ps_323 (R : Nat → Nat → Option Nat) (I : Nat → Nat → Int32) (J : Nat → Nat → Int64) (a : Nat) (v : Int32) : pq_fl R (pq_u I 323 a v) J 10 a = (pq_fl R I J 10 a).set 3 (.int v) := by simp [pq_fl, pq_u, va_up]
theorem ps_324 (R : Nat → Nat → Option Nat) (I : Nat → Nat → Int32) (J : Nat → Nat → Int64) (a : Nat) (v : Int32) : pq_fl R (pq_u I 324 a v) J 10 a = (pq_fl R I J 10 a).set 4 (.int v) := by simp [pq_fl, pq_u, va_up]
theorem ps_388 (R : Nat → Nat → Option Nat) (I : Nat → Nat → Int32) (J : Nat → Nat → Int64) (a : Nat) (v : Int32) : pq_fl R (pq_u I 388 a v) J 12 a = (pq_fl R I J 12 a).set 4 (.int v) := by simp [pq_fl, pq_u, va_up]
theorem ps_389 (R : Nat → Nat → Option Nat) (I : Nat → Nat → Int32) (J : Nat → Nat → Int64) (a : Nat) (v : Int32) : pq_fl R (pq_u I 389 a v) J 12 a = (pq_fl R I J 12 a).set 5 (.int v) := by simp [pq_fl, pq_u, va_up]
theorem ps_390 (R : Nat → Nat → Option Nat) (I : Nat → Nat → Int32) (J : Nat → Nat → Int64) (a : Nat) (v : Int32) : pq_fl R (pq_u I 390 a v) J 12 a = (pq_fl R I J 12 a).set 6 (.int v) := by simp [pq_fl, pq_u, va_up]
theorem ps_391 (R : Nat → Nat → Option Nat) (I : Nat → Nat → Int32) (J : Nat → Nat → Int64) (a : Nat) (v : Int32) : pq_fl R (pq_u I 391 a v) J 12 a = (pq_fl R I J 12 a).set 7 (.int v) := by simp [pq_fl, pq_u, va_up]
theorem ps_392 (R : Nat → Nat → Option Nat) (I : Nat → Nat → Int32) (J : Nat → Nat → Int64) (a : Nat) (v : Int32) : pq_fl R (pq_u I 392 a v) J 12 a = (pq_fl R I J 12 a).set 8 (.int v) := by simp [pq_fl, pq_u, va_up]
theorem ps_393 (R : Nat → Nat → Option Nat) (I : Nat → Nat → Int32) (J : Nat → Nat → Int64) (a : Nat) (v : Int32) : pq_fl R (pq_u I 393 a v) J 12 a = (pq_fl R I J 12 a).set 9 (.int v) := by simp [pq_fl, pq_u, va_up]
theorem ps_394 (R : Nat → Nat → Option Nat) (I : Nat → Nat → Int32) (J : Nat → Nat → Int64) (a : Nat) (v : Int32) : pq_fl R (pq_u I 394 a v) J 12 a = (pq_fl R I J 12 a).set 10 (.int v) := by simp [pq_fl, pq_u, va_up]
theorem ps_395 (R : Nat → Nat → Option Nat) (I : Nat → Nat → Int32) (J : Nat → Nat → Int64) (a : Nat) (v : Int64) : pq_fl R I (pq_u J 395 a v) 12 a = (pq_fl R I J 12 a).set 11 (.long v) := by simp [pq_fl, pq_u, va_up]
theorem ps_396 (R : Nat → Nat → Option Nat) (I : Nat → Nat → Int32) (J : Nat → Nat → Int64) (a : Nat) (v : Int32) : pq_fl R (pq_u I 396 a v) J 12 a = (pq_fl R I J 12 a).set 12 (.int v) := by simp [pq_fl, pq_u, va_up]
theorem ps_397 (R : Nat → Nat → Option Nat) (I : Nat → Nat → Int32) (J : Nat → Nat → Int64) (a : Nat) (v : Int32) : pq_fl R (pq_u I 397 a v) J 12 a = (pq_fl R I J 12 a).set 13 (.int v) := by simp [pq_fl, pq_u, va_up]
theorem ps_398 (R : Nat → Nat → Option Nat) (I : Nat → Nat → Int32) (J : Nat → Nat → Int64) (a : Nat) (v : Int32) : pq_fl R (pq_u I 398 a v) J 12 a = (pq_fl R I J 12 a).set 14 (.int v) := by simp [pq_fl, pq_u, va_up]
theorem ps_399 (R : Nat → Nat → Option Nat) (I : Nat → Nat → Int32) (J : Nat → Nat → Int64) (a : Nat) (v : Int32) : pq_fl R (pq_u I 399 a v) J 12 a = (pq_fl R I J 12 a).set 15 (.int v) := by simp [pq_fl, pq_u, va_up]
theorem ps_401 (R : Nat → Nat → Option Nat) (I : Nat → Nat → Int32) (J : Nat → Nat → Int64) (a : Nat) (v : Int32) : pq_fl R (pq_u I 401 a v) J 12 a = (pq_fl R I J 12 a).set 17 (.int v) := by simp [pq_fl, pq_u, va_up]
theorem ps_402 (R : Nat → Nat → Option Nat) (I : Nat → Nat → Int32) (J : Nat → Nat → Int64) (a : Nat) (v : Int32) : pq_fl R (pq_u I 402 a v) J 12 a = (pq_fl R I J 12 a).set 18 (.int v) := by simp [pq_fl, pq_u, va_up]
theorem ps_403 (R : Nat → Nat → Option Nat) (I : Nat → Nat → Int32) (J : Nat → Nat → Int64) (a : Nat) (v : Int32) : pq_fl R (pq_u I 403 a v) J 12 a = (pq_fl R I J 12 a).set 19 (.int v) := by simp [pq_fl, pq_u, va_up]
theorem ps_406 (R : Nat → Nat → Option Nat) (I : Nat → Nat → Int32) (J : Nat → Nat → Int64) (a : Nat) (v : Int32) : pq_fl R (pq_u I 406 a v) J 12 a = (pq_fl R I J 12 a).set 22 (.int v) := by simp [pq_fl, pq_u, va_up]
theorem ps_407 (R : Nat → Nat → Option Nat) (I : Nat → Nat → Int32) (J : Nat → Nat → Int64) (a : Nat) (v : Int32) : pq_fl R (pq_u I 407 a v) J 12 a = (pq_fl R I J 12 a).set 23 (.int v) := by simp [pq_fl, pq_u, va_up]
theorem ps_410 (R : Nat → Nat → Option Nat) (I : Nat → Nat → Int32) (J : Nat → Nat → Int64) (a : Nat) (v : Int32) : pq_fl R (pq_u I 410 a v) J 12 a = (pq_fl R I J 12 a).set 26 (.int v) := by simp [pq_fl, pq_u, va_up]
