/-! ===== instructions by their bytes ===== -/
def pfx : List UInt8 → List Nat → Bool
  | _, [] => true
  | [], _ :: _ => false
  | a :: s, n :: l => a.toNat == n && pfx s l
theorem pfx_u1 {c : ByteArray} {p n : Nat} {l : List Nat} (h : pfx (c.data.toList.drop p) (n :: l) = true) : (Reader.u1 : Decoder Nat) c p = .ok (n, p + 1) ∧ pfx (c.data.toList.drop (p + 1)) l = true := by
  obtain ⟨⟨d⟩⟩ := c
  by_cases hlt : p < d.length
  · have h1 : pfx (d.drop p) (n :: l) = true := h
    rw [List.drop_eq_getElem_cons hlt] at h1
    have h2 : (d[p].toNat == n && pfx (d.drop (p + 1)) l) = true := h1
    simp only [Bool.and_eq_true, beq_iff_eq] at h2
    obtain ⟨e, h3⟩ := h2
    refine ⟨?_, h3⟩
    have hsz : p < (ByteArray.mk (Array.mk d)).size := hlt
    have hu : (Reader.u1 : Decoder Nat) (ByteArray.mk (Array.mk d)) p = (dite (p < (ByteArray.mk (Array.mk d)).size) (fun h => (Except.ok (((ByteArray.mk (Array.mk d))[p]'h).toNat, p + 1) : Except DecodeError (Nat × Nat))) (fun _ => Except.error (HasTruncated.truncated p))) := by
      unfold Reader.u1
      by_cases hz : p < (ByteArray.mk (Array.mk d)).size
      · rw [dif_pos hz]
        show (dite (p < (ByteArray.mk (Array.mk d)).size) (fun h => (do set (p + 1); pure ((ByteArray.mk (Array.mk d))[p]'h).toNat : Decoder Nat)) (fun _ => throw (HasTruncated.truncated p))) (ByteArray.mk (Array.mk d)) p = _
        rw [dif_pos hz]
        rfl
      · exact absurd hsz hz
    rw [hu, dif_pos hsz, ← e]
    rfl
  · have h1 : pfx (d.drop p) (n :: l) = true := h
    rw [List.drop_eq_nil_of_le (Nat.le_of_not_lt hlt)] at h1
    exact Bool.noConfusion (show false = true from h1)
theorem oc_bd {α β : Type} {m : Decoder α} {k : α → Decoder β} {c : ByteArray} {p q : Nat} {v : α} (h : m c p = .ok (v, q)) : (m >>= k) c p = k v c q := by
  have e : (m >>= k) c p = Except.bind (m c p) (fun r => k r.1 c r.2) := rfl
  rw [e, h]
  rfl
theorem oc_mp {α β : Type} {m : Decoder α} {f : α → β} {c : ByteArray} {p q : Nat} {v : α} (h : m c p = .ok (v, q)) : (f <$> m) c p = .ok (f v, q) := by
  have e : (f <$> m) c p = Except.bind (m c p) (fun r => Except.ok (f r.1, r.2)) := rfl
  rw [e, h]
  rfl
theorem oc_dc {c : ByteArray} {p q n : Nat} {i : Instr} (h : (Decoder.instr p) c p = .ok (i, q)) (hn : q = p + n) : decode c p = .ok (i, n) := by
  have e : decode c p = Except.bind ((Decoder.instr p) c p) (fun r => Except.ok (r.1, r.2 - p)) := rfl
  rw [e, h, hn]
  show Except.ok (i, p + n - p) = _
  rw [Nat.add_sub_cancel_left]
theorem oc_u2 {c : ByteArray} {p a b : Nat} {l : List Nat} (h : pfx (c.data.toList.drop p) (a :: b :: l) = true) : (Reader.u2 : Decoder Nat) c p = .ok (a * 256 + b, p + 1 + 1) ∧ pfx (c.data.toList.drop (p + 1 + 1)) l = true := by
  have x := pfx_u1 h
  have y := pfx_u1 x.2
  refine ⟨?_, y.2⟩
  unfold Reader.u2
  exact (oc_bd x.1).trans ((oc_bd y.1).trans rfl)
theorem oc_s2 {c : ByteArray} {p a b : Nat} {l : List Nat} (h : pfx (c.data.toList.drop p) (a :: b :: l) = true) : (Reader.s2 : Decoder Int) c p = .ok (Reader.signed 16 (a * 256 + b), p + 1 + 1) := oc_mp (oc_u2 h).1
theorem oc_s1 {c : ByteArray} {p a : Nat} {l : List Nat} (h : pfx (c.data.toList.drop p) (a :: l) = true) : (Reader.s1 : Decoder Int) c p = .ok (Reader.signed 8 a, p + 1) := oc_mp (pfx_u1 h).1
theorem oc_1 {c : ByteArray} {p : Nat} (h : pfx (c.data.toList.drop p) [1] = true) : decode c p = .ok (.aconst_null, 1) := oc_dc (q := p + 1) ((oc_bd (pfx_u1 h).1).trans rfl) rfl
theorem oc_2 {c : ByteArray} {p : Nat} (h : pfx (c.data.toList.drop p) [2] = true) : decode c p = .ok (.iconst (-1), 1) := oc_dc (q := p + 1) ((oc_bd (pfx_u1 h).1).trans rfl) rfl
theorem oc_3 {c : ByteArray} {p : Nat} (h : pfx (c.data.toList.drop p) [3] = true) : decode c p = .ok (.iconst 0, 1) := oc_dc (q := p + 1) ((oc_bd (pfx_u1 h).1).trans rfl) rfl
theorem oc_4 {c : ByteArray} {p : Nat} (h : pfx (c.data.toList.drop p) [4] = true) : decode c p = .ok (.iconst 1, 1) := oc_dc (q := p + 1) ((oc_bd (pfx_u1 h).1).trans rfl) rfl
theorem oc_5 {c : ByteArray} {p : Nat} (h : pfx (c.data.toList.drop p) [5] = true) : decode c p = .ok (.iconst 2, 1) := oc_dc (q := p + 1) ((oc_bd (pfx_u1 h).1).trans rfl) rfl
theorem oc_6 {c : ByteArray} {p : Nat} (h : pfx (c.data.toList.drop p) [6] = true) : decode c p = .ok (.iconst 3, 1) := oc_dc (q := p + 1) ((oc_bd (pfx_u1 h).1).trans rfl) rfl
theorem oc_7 {c : ByteArray} {p : Nat} (h : pfx (c.data.toList.drop p) [7] = true) : decode c p = .ok (.iconst 4, 1) := oc_dc (q := p + 1) ((oc_bd (pfx_u1 h).1).trans rfl) rfl
theorem oc_8 {c : ByteArray} {p : Nat} (h : pfx (c.data.toList.drop p) [8] = true) : decode c p = .ok (.iconst 5, 1) := oc_dc (q := p + 1) ((oc_bd (pfx_u1 h).1).trans rfl) rfl
theorem oc_9 {c : ByteArray} {p : Nat} (h : pfx (c.data.toList.drop p) [9] = true) : decode c p = .ok (.lconst 0, 1) := oc_dc (q := p + 1) ((oc_bd (pfx_u1 h).1).trans rfl) rfl
theorem oc_10 {c : ByteArray} {p : Nat} (h : pfx (c.data.toList.drop p) [10] = true) : decode c p = .ok (.lconst 1, 1) := oc_dc (q := p + 1) ((oc_bd (pfx_u1 h).1).trans rfl) rfl
theorem oc_16 {c : ByteArray} {p a : Nat} {v : Int} (h : (pfx (c.data.toList.drop p) [16, a] && (Reader.signed 8 a == v)) = true) : decode c p = .ok (.bipush v, 2) := by
  simp only [Bool.and_eq_true, beq_iff_eq] at h
  obtain ⟨h, e⟩ := h
  subst e
  exact oc_dc (q := p + 1 + 1) ((oc_bd (pfx_u1 h).1).trans ((oc_bd (oc_s1 (pfx_u1 h).2)).trans rfl)) rfl
theorem oc_17 {c : ByteArray} {p a b : Nat} {v : Int} (h : (pfx (c.data.toList.drop p) [17, a, b] && (Reader.signed 16 (a * 256 + b) == v)) = true) : decode c p = .ok (.sipush v, 3) := by
  simp only [Bool.and_eq_true, beq_iff_eq] at h
  obtain ⟨h, e⟩ := h
  subst e
  exact oc_dc (q := p + 1 + 1 + 1) ((oc_bd (pfx_u1 h).1).trans ((oc_bd (oc_s2 (pfx_u1 h).2)).trans rfl)) rfl
theorem oc_18 {c : ByteArray} {p a : Nat} (h : pfx (c.data.toList.drop p) [18, a] = true) : decode c p = .ok (.ldc a, 2) := oc_dc (q := p + 1 + 1) ((oc_bd (pfx_u1 h).1).trans ((oc_bd (pfx_u1 (pfx_u1 h).2).1).trans rfl)) rfl
theorem oc_19 {c : ByteArray} {p a b v : Nat} (h : (pfx (c.data.toList.drop p) [19, a, b] && (a * 256 + b == v)) = true) : decode c p = .ok (.ldc_w v, 3) := by
  simp only [Bool.and_eq_true, beq_iff_eq] at h
  obtain ⟨h, e⟩ := h
  subst e
  exact oc_dc (q := p + 1 + 1 + 1) ((oc_bd (pfx_u1 h).1).trans ((oc_bd (oc_u2 (pfx_u1 h).2).1).trans rfl)) rfl
theorem oc_20 {c : ByteArray} {p a b v : Nat} (h : (pfx (c.data.toList.drop p) [20, a, b] && (a * 256 + b == v)) = true) : decode c p = .ok (.ldc2_w v, 3) := by
  simp only [Bool.and_eq_true, beq_iff_eq] at h
  obtain ⟨h, e⟩ := h
  subst e
  exact oc_dc (q := p + 1 + 1 + 1) ((oc_bd (pfx_u1 h).1).trans ((oc_bd (oc_u2 (pfx_u1 h).2).1).trans rfl)) rfl
theorem oc_21 {c : ByteArray} {p a : Nat} (h : pfx (c.data.toList.drop p) [21, a] = true) : decode c p = .ok (.iload a, 2) := oc_dc (q := p + 1 + 1) ((oc_bd (pfx_u1 h).1).trans ((oc_bd (pfx_u1 (pfx_u1 h).2).1).trans rfl)) rfl
theorem oc_22 {c : ByteArray} {p a : Nat} (h : pfx (c.data.toList.drop p) [22, a] = true) : decode c p = .ok (.lload a, 2) := oc_dc (q := p + 1 + 1) ((oc_bd (pfx_u1 h).1).trans ((oc_bd (pfx_u1 (pfx_u1 h).2).1).trans rfl)) rfl
theorem oc_25 {c : ByteArray} {p a : Nat} (h : pfx (c.data.toList.drop p) [25, a] = true) : decode c p = .ok (.aload a, 2) := oc_dc (q := p + 1 + 1) ((oc_bd (pfx_u1 h).1).trans ((oc_bd (pfx_u1 (pfx_u1 h).2).1).trans rfl)) rfl
theorem oc_26 {c : ByteArray} {p : Nat} (h : pfx (c.data.toList.drop p) [26] = true) : decode c p = .ok (.iload_n 0, 1) := oc_dc (q := p + 1) ((oc_bd (pfx_u1 h).1).trans rfl) rfl
theorem oc_27 {c : ByteArray} {p : Nat} (h : pfx (c.data.toList.drop p) [27] = true) : decode c p = .ok (.iload_n 1, 1) := oc_dc (q := p + 1) ((oc_bd (pfx_u1 h).1).trans rfl) rfl
theorem oc_28 {c : ByteArray} {p : Nat} (h : pfx (c.data.toList.drop p) [28] = true) : decode c p = .ok (.iload_n 2, 1) := oc_dc (q := p + 1) ((oc_bd (pfx_u1 h).1).trans rfl) rfl
theorem oc_29 {c : ByteArray} {p : Nat} (h : pfx (c.data.toList.drop p) [29] = true) : decode c p = .ok (.iload_n 3, 1) := oc_dc (q := p + 1) ((oc_bd (pfx_u1 h).1).trans rfl) rfl
theorem oc_30 {c : ByteArray} {p : Nat} (h : pfx (c.data.toList.drop p) [30] = true) : decode c p = .ok (.lload_n 0, 1) := oc_dc (q := p + 1) ((oc_bd (pfx_u1 h).1).trans rfl) rfl
theorem oc_31 {c : ByteArray} {p : Nat} (h : pfx (c.data.toList.drop p) [31] = true) : decode c p = .ok (.lload_n 1, 1) := oc_dc (q := p + 1) ((oc_bd (pfx_u1 h).1).trans rfl) rfl
theorem oc_32 {c : ByteArray} {p : Nat} (h : pfx (c.data.toList.drop p) [32] = true) : decode c p = .ok (.lload_n 2, 1) := oc_dc (q := p + 1) ((oc_bd (pfx_u1 h).1).trans rfl) rfl
theorem oc_33 {c : ByteArray} {p : Nat} (h : pfx (c.data.toList.drop p) [33] = true) : decode c p = .ok (.lload_n 3, 1) := oc_dc (q := p + 1) ((oc_bd (pfx_u1 h).1).trans rfl) rfl
theorem oc_42 {c : ByteArray} {p : Nat} (h : pfx (c.data.toList.drop p) [42] = true) : decode c p = .ok (.aload_n 0, 1) := oc_dc (q := p + 1) ((oc_bd (pfx_u1 h).1).trans rfl) rfl
theorem oc_43 {c : ByteArray} {p : Nat} (h : pfx (c.data.toList.drop p) [43] = true) : decode c p = .ok (.aload_n 1, 1) := oc_dc (q := p + 1) ((oc_bd (pfx_u1 h).1).trans rfl) rfl
theorem oc_44 {c : ByteArray} {p : Nat} (h : pfx (c.data.toList.drop p) [44] = true) : decode c p = .ok (.aload_n 2, 1) := oc_dc (q := p + 1) ((oc_bd (pfx_u1 h).1).trans rfl) rfl
theorem oc_45 {c : ByteArray} {p : Nat} (h : pfx (c.data.toList.drop p) [45] = true) : decode c p = .ok (.aload_n 3, 1) := oc_dc (q := p + 1) ((oc_bd (pfx_u1 h).1).trans rfl) rfl
theorem oc_46 {c : ByteArray} {p : Nat} (h : pfx (c.data.toList.drop p) [46] = true) : decode c p = .ok (.iaload, 1) := oc_dc (q := p + 1) ((oc_bd (pfx_u1 h).1).trans rfl) rfl
theorem oc_47 {c : ByteArray} {p : Nat} (h : pfx (c.data.toList.drop p) [47] = true) : decode c p = .ok (.laload, 1) := oc_dc (q := p + 1) ((oc_bd (pfx_u1 h).1).trans rfl) rfl
theorem oc_50 {c : ByteArray} {p : Nat} (h : pfx (c.data.toList.drop p) [50] = true) : decode c p = .ok (.aaload, 1) := oc_dc (q := p + 1) ((oc_bd (pfx_u1 h).1).trans rfl) rfl
theorem oc_51 {c : ByteArray} {p : Nat} (h : pfx (c.data.toList.drop p) [51] = true) : decode c p = .ok (.baload, 1) := oc_dc (q := p + 1) ((oc_bd (pfx_u1 h).1).trans rfl) rfl
theorem oc_54 {c : ByteArray} {p a : Nat} (h : pfx (c.data.toList.drop p) [54, a] = true) : decode c p = .ok (.istore a, 2) := oc_dc (q := p + 1 + 1) ((oc_bd (pfx_u1 h).1).trans ((oc_bd (pfx_u1 (pfx_u1 h).2).1).trans rfl)) rfl
theorem oc_55 {c : ByteArray} {p a : Nat} (h : pfx (c.data.toList.drop p) [55, a] = true) : decode c p = .ok (.lstore a, 2) := oc_dc (q := p + 1 + 1) ((oc_bd (pfx_u1 h).1).trans ((oc_bd (pfx_u1 (pfx_u1 h).2).1).trans rfl)) rfl
theorem oc_58 {c : ByteArray} {p a : Nat} (h : pfx (c.data.toList.drop p) [58, a] = true) : decode c p = .ok (.astore a, 2) := oc_dc (q := p + 1 + 1) ((oc_bd (pfx_u1 h).1).trans ((oc_bd (pfx_u1 (pfx_u1 h).2).1).trans rfl)) rfl
theorem oc_59 {c : ByteArray} {p : Nat} (h : pfx (c.data.toList.drop p) [59] = true) : decode c p = .ok (.istore_n 0, 1) := oc_dc (q := p + 1) ((oc_bd (pfx_u1 h).1).trans rfl) rfl
theorem oc_60 {c : ByteArray} {p : Nat} (h : pfx (c.data.toList.drop p) [60] = true) : decode c p = .ok (.istore_n 1, 1) := oc_dc (q := p + 1) ((oc_bd (pfx_u1 h).1).trans rfl) rfl
theorem oc_61 {c : ByteArray} {p : Nat} (h : pfx (c.data.toList.drop p) [61] = true) : decode c p = .ok (.istore_n 2, 1) := oc_dc (q := p + 1) ((oc_bd (pfx_u1 h).1).trans rfl) rfl
theorem oc_62 {c : ByteArray} {p : Nat} (h : pfx (c.data.toList.drop p) [62] = true) : decode c p = .ok (.istore_n 3, 1) := oc_dc (q := p + 1) ((oc_bd (pfx_u1 h).1).trans rfl) rfl
theorem oc_63 {c : ByteArray} {p : Nat} (h : pfx (c.data.toList.drop p) [63] = true) : decode c p = .ok (.lstore_n 0, 1) := oc_dc (q := p + 1) ((oc_bd (pfx_u1 h).1).trans rfl) rfl
theorem oc_64 {c : ByteArray} {p : Nat} (h : pfx (c.data.toList.drop p) [64] = true) : decode c p = .ok (.lstore_n 1, 1) := oc_dc (q := p + 1) ((oc_bd (pfx_u1 h).1).trans rfl) rfl
theorem oc_65 {c : ByteArray} {p : Nat} (h : pfx (c.data.toList.drop p) [65] = true) : decode c p = .ok (.lstore_n 2, 1) := oc_dc (q := p + 1) ((oc_bd (pfx_u1 h).1).trans rfl) rfl
theorem oc_66 {c : ByteArray} {p : Nat} (h : pfx (c.data.toList.drop p) [66] = true) : decode c p = .ok (.lstore_n 3, 1) := oc_dc (q := p + 1) ((oc_bd (pfx_u1 h).1).trans rfl) rfl
theorem oc_76 {c : ByteArray} {p : Nat} (h : pfx (c.data.toList.drop p) [76] = true) : decode c p = .ok (.astore_n 1, 1) := oc_dc (q := p + 1) ((oc_bd (pfx_u1 h).1).trans rfl) rfl
theorem oc_77 {c : ByteArray} {p : Nat} (h : pfx (c.data.toList.drop p) [77] = true) : decode c p = .ok (.astore_n 2, 1) := oc_dc (q := p + 1) ((oc_bd (pfx_u1 h).1).trans rfl) rfl
theorem oc_78 {c : ByteArray} {p : Nat} (h : pfx (c.data.toList.drop p) [78] = true) : decode c p = .ok (.astore_n 3, 1) := oc_dc (q := p + 1) ((oc_bd (pfx_u1 h).1).trans rfl) rfl
theorem oc_79 {c : ByteArray} {p : Nat} (h : pfx (c.data.toList.drop p) [79] = true) : decode c p = .ok (.iastore, 1) := oc_dc (q := p + 1) ((oc_bd (pfx_u1 h).1).trans rfl) rfl
theorem oc_80 {c : ByteArray} {p : Nat} (h : pfx (c.data.toList.drop p) [80] = true) : decode c p = .ok (.lastore, 1) := oc_dc (q := p + 1) ((oc_bd (pfx_u1 h).1).trans rfl) rfl
theorem oc_83 {c : ByteArray} {p : Nat} (h : pfx (c.data.toList.drop p) [83] = true) : decode c p = .ok (.aastore, 1) := oc_dc (q := p + 1) ((oc_bd (pfx_u1 h).1).trans rfl) rfl
theorem oc_84 {c : ByteArray} {p : Nat} (h : pfx (c.data.toList.drop p) [84] = true) : decode c p = .ok (.bastore, 1) := oc_dc (q := p + 1) ((oc_bd (pfx_u1 h).1).trans rfl) rfl
theorem oc_87 {c : ByteArray} {p : Nat} (h : pfx (c.data.toList.drop p) [87] = true) : decode c p = .ok (.pop, 1) := oc_dc (q := p + 1) ((oc_bd (pfx_u1 h).1).trans rfl) rfl
theorem oc_89 {c : ByteArray} {p : Nat} (h : pfx (c.data.toList.drop p) [89] = true) : decode c p = .ok (.dup, 1) := oc_dc (q := p + 1) ((oc_bd (pfx_u1 h).1).trans rfl) rfl
theorem oc_92 {c : ByteArray} {p : Nat} (h : pfx (c.data.toList.drop p) [92] = true) : decode c p = .ok (.dup2, 1) := oc_dc (q := p + 1) ((oc_bd (pfx_u1 h).1).trans rfl) rfl
theorem oc_96 {c : ByteArray} {p : Nat} (h : pfx (c.data.toList.drop p) [96] = true) : decode c p = .ok (.iadd, 1) := oc_dc (q := p + 1) ((oc_bd (pfx_u1 h).1).trans rfl) rfl
theorem oc_97 {c : ByteArray} {p : Nat} (h : pfx (c.data.toList.drop p) [97] = true) : decode c p = .ok (.ladd, 1) := oc_dc (q := p + 1) ((oc_bd (pfx_u1 h).1).trans rfl) rfl
theorem oc_100 {c : ByteArray} {p : Nat} (h : pfx (c.data.toList.drop p) [100] = true) : decode c p = .ok (.isub, 1) := oc_dc (q := p + 1) ((oc_bd (pfx_u1 h).1).trans rfl) rfl
theorem oc_101 {c : ByteArray} {p : Nat} (h : pfx (c.data.toList.drop p) [101] = true) : decode c p = .ok (.lsub, 1) := oc_dc (q := p + 1) ((oc_bd (pfx_u1 h).1).trans rfl) rfl
theorem oc_104 {c : ByteArray} {p : Nat} (h : pfx (c.data.toList.drop p) [104] = true) : decode c p = .ok (.imul, 1) := oc_dc (q := p + 1) ((oc_bd (pfx_u1 h).1).trans rfl) rfl
theorem oc_105 {c : ByteArray} {p : Nat} (h : pfx (c.data.toList.drop p) [105] = true) : decode c p = .ok (.lmul, 1) := oc_dc (q := p + 1) ((oc_bd (pfx_u1 h).1).trans rfl) rfl
theorem oc_108 {c : ByteArray} {p : Nat} (h : pfx (c.data.toList.drop p) [108] = true) : decode c p = .ok (.idiv, 1) := oc_dc (q := p + 1) ((oc_bd (pfx_u1 h).1).trans rfl) rfl
theorem oc_109 {c : ByteArray} {p : Nat} (h : pfx (c.data.toList.drop p) [109] = true) : decode c p = .ok (.ldiv, 1) := oc_dc (q := p + 1) ((oc_bd (pfx_u1 h).1).trans rfl) rfl
theorem oc_112 {c : ByteArray} {p : Nat} (h : pfx (c.data.toList.drop p) [112] = true) : decode c p = .ok (.irem, 1) := oc_dc (q := p + 1) ((oc_bd (pfx_u1 h).1).trans rfl) rfl
theorem oc_116 {c : ByteArray} {p : Nat} (h : pfx (c.data.toList.drop p) [116] = true) : decode c p = .ok (.ineg, 1) := oc_dc (q := p + 1) ((oc_bd (pfx_u1 h).1).trans rfl) rfl
theorem oc_117 {c : ByteArray} {p : Nat} (h : pfx (c.data.toList.drop p) [117] = true) : decode c p = .ok (.lneg, 1) := oc_dc (q := p + 1) ((oc_bd (pfx_u1 h).1).trans rfl) rfl
theorem oc_120 {c : ByteArray} {p : Nat} (h : pfx (c.data.toList.drop p) [120] = true) : decode c p = .ok (.ishl, 1) := oc_dc (q := p + 1) ((oc_bd (pfx_u1 h).1).trans rfl) rfl
theorem oc_121 {c : ByteArray} {p : Nat} (h : pfx (c.data.toList.drop p) [121] = true) : decode c p = .ok (.lshl, 1) := oc_dc (q := p + 1) ((oc_bd (pfx_u1 h).1).trans rfl) rfl
theorem oc_122 {c : ByteArray} {p : Nat} (h : pfx (c.data.toList.drop p) [122] = true) : decode c p = .ok (.ishr, 1) := oc_dc (q := p + 1) ((oc_bd (pfx_u1 h).1).trans rfl) rfl
theorem oc_123 {c : ByteArray} {p : Nat} (h : pfx (c.data.toList.drop p) [123] = true) : decode c p = .ok (.lshr, 1) := oc_dc (q := p + 1) ((oc_bd (pfx_u1 h).1).trans rfl) rfl
theorem oc_124 {c : ByteArray} {p : Nat} (h : pfx (c.data.toList.drop p) [124] = true) : decode c p = .ok (.iushr, 1) := oc_dc (q := p + 1) ((oc_bd (pfx_u1 h).1).trans rfl) rfl
theorem oc_125 {c : ByteArray} {p : Nat} (h : pfx (c.data.toList.drop p) [125] = true) : decode c p = .ok (.lushr, 1) := oc_dc (q := p + 1) ((oc_bd (pfx_u1 h).1).trans rfl) rfl
theorem oc_126 {c : ByteArray} {p : Nat} (h : pfx (c.data.toList.drop p) [126] = true) : decode c p = .ok (.iand, 1) := oc_dc (q := p + 1) ((oc_bd (pfx_u1 h).1).trans rfl) rfl
theorem oc_127 {c : ByteArray} {p : Nat} (h : pfx (c.data.toList.drop p) [127] = true) : decode c p = .ok (.land, 1) := oc_dc (q := p + 1) ((oc_bd (pfx_u1 h).1).trans rfl) rfl
theorem oc_128 {c : ByteArray} {p : Nat} (h : pfx (c.data.toList.drop p) [128] = true) : decode c p = .ok (.ior, 1) := oc_dc (q := p + 1) ((oc_bd (pfx_u1 h).1).trans rfl) rfl
theorem oc_129 {c : ByteArray} {p : Nat} (h : pfx (c.data.toList.drop p) [129] = true) : decode c p = .ok (.lor, 1) := oc_dc (q := p + 1) ((oc_bd (pfx_u1 h).1).trans rfl) rfl
theorem oc_132 {c : ByteArray} {p a b : Nat} {v : Int} (h : (pfx (c.data.toList.drop p) [132, a, b] && (Reader.signed 8 b == v)) = true) : decode c p = .ok (.iinc a v, 3) := by
  simp only [Bool.and_eq_true, beq_iff_eq] at h
  obtain ⟨h, e⟩ := h
  subst e
  exact oc_dc (q := p + 1 + 1 + 1) ((oc_bd (pfx_u1 h).1).trans ((oc_bd (pfx_u1 (pfx_u1 h).2).1).trans ((oc_bd (oc_s1 (pfx_u1 (pfx_u1 h).2).2)).trans rfl))) rfl
theorem oc_133 {c : ByteArray} {p : Nat} (h : pfx (c.data.toList.drop p) [133] = true) : decode c p = .ok (.i2l, 1) := oc_dc (q := p + 1) ((oc_bd (pfx_u1 h).1).trans rfl) rfl
theorem oc_136 {c : ByteArray} {p : Nat} (h : pfx (c.data.toList.drop p) [136] = true) : decode c p = .ok (.l2i, 1) := oc_dc (q := p + 1) ((oc_bd (pfx_u1 h).1).trans rfl) rfl
theorem oc_146 {c : ByteArray} {p : Nat} (h : pfx (c.data.toList.drop p) [146] = true) : decode c p = .ok (.i2c, 1) := oc_dc (q := p + 1) ((oc_bd (pfx_u1 h).1).trans rfl) rfl
theorem oc_148 {c : ByteArray} {p : Nat} (h : pfx (c.data.toList.drop p) [148] = true) : decode c p = .ok (.lcmp, 1) := oc_dc (q := p + 1) ((oc_bd (pfx_u1 h).1).trans rfl) rfl
theorem oc_153 {c : ByteArray} {p a b : Nat} {v : Int} (h : (pfx (c.data.toList.drop p) [153, a, b] && (Reader.signed 16 (a * 256 + b) == v)) = true) : decode c p = .ok (.ifCond .eq v, 3) := by
  simp only [Bool.and_eq_true, beq_iff_eq] at h
  obtain ⟨h, e⟩ := h
  subst e
  exact oc_dc (q := p + 1 + 1 + 1) ((oc_bd (pfx_u1 h).1).trans ((oc_bd (oc_s2 (pfx_u1 h).2)).trans rfl)) rfl
theorem oc_154 {c : ByteArray} {p a b : Nat} {v : Int} (h : (pfx (c.data.toList.drop p) [154, a, b] && (Reader.signed 16 (a * 256 + b) == v)) = true) : decode c p = .ok (.ifCond .ne v, 3) := by
  simp only [Bool.and_eq_true, beq_iff_eq] at h
  obtain ⟨h, e⟩ := h
  subst e
  exact oc_dc (q := p + 1 + 1 + 1) ((oc_bd (pfx_u1 h).1).trans ((oc_bd (oc_s2 (pfx_u1 h).2)).trans rfl)) rfl
theorem oc_155 {c : ByteArray} {p a b : Nat} {v : Int} (h : (pfx (c.data.toList.drop p) [155, a, b] && (Reader.signed 16 (a * 256 + b) == v)) = true) : decode c p = .ok (.ifCond .lt v, 3) := by
  simp only [Bool.and_eq_true, beq_iff_eq] at h
  obtain ⟨h, e⟩ := h
  subst e
  exact oc_dc (q := p + 1 + 1 + 1) ((oc_bd (pfx_u1 h).1).trans ((oc_bd (oc_s2 (pfx_u1 h).2)).trans rfl)) rfl
theorem oc_156 {c : ByteArray} {p a b : Nat} {v : Int} (h : (pfx (c.data.toList.drop p) [156, a, b] && (Reader.signed 16 (a * 256 + b) == v)) = true) : decode c p = .ok (.ifCond .ge v, 3) := by
  simp only [Bool.and_eq_true, beq_iff_eq] at h
  obtain ⟨h, e⟩ := h
  subst e
  exact oc_dc (q := p + 1 + 1 + 1) ((oc_bd (pfx_u1 h).1).trans ((oc_bd (oc_s2 (pfx_u1 h).2)).trans rfl)) rfl
theorem oc_157 {c : ByteArray} {p a b : Nat} {v : Int} (h : (pfx (c.data.toList.drop p) [157, a, b] && (Reader.signed 16 (a * 256 + b) == v)) = true) : decode c p = .ok (.ifCond .gt v, 3) := by
  simp only [Bool.and_eq_true, beq_iff_eq] at h
  obtain ⟨h, e⟩ := h
  subst e
  exact oc_dc (q := p + 1 + 1 + 1) ((oc_bd (pfx_u1 h).1).trans ((oc_bd (oc_s2 (pfx_u1 h).2)).trans rfl)) rfl
theorem oc_158 {c : ByteArray} {p a b : Nat} {v : Int} (h : (pfx (c.data.toList.drop p) [158, a, b] && (Reader.signed 16 (a * 256 + b) == v)) = true) : decode c p = .ok (.ifCond .le v, 3) := by
  simp only [Bool.and_eq_true, beq_iff_eq] at h
  obtain ⟨h, e⟩ := h
  subst e
  exact oc_dc (q := p + 1 + 1 + 1) ((oc_bd (pfx_u1 h).1).trans ((oc_bd (oc_s2 (pfx_u1 h).2)).trans rfl)) rfl
theorem oc_159 {c : ByteArray} {p a b : Nat} {v : Int} (h : (pfx (c.data.toList.drop p) [159, a, b] && (Reader.signed 16 (a * 256 + b) == v)) = true) : decode c p = .ok (.if_icmp .eq v, 3) := by
  simp only [Bool.and_eq_true, beq_iff_eq] at h
  obtain ⟨h, e⟩ := h
  subst e
  exact oc_dc (q := p + 1 + 1 + 1) ((oc_bd (pfx_u1 h).1).trans ((oc_bd (oc_s2 (pfx_u1 h).2)).trans rfl)) rfl
theorem oc_160 {c : ByteArray} {p a b : Nat} {v : Int} (h : (pfx (c.data.toList.drop p) [160, a, b] && (Reader.signed 16 (a * 256 + b) == v)) = true) : decode c p = .ok (.if_icmp .ne v, 3) := by
  simp only [Bool.and_eq_true, beq_iff_eq] at h
  obtain ⟨h, e⟩ := h
  subst e
  exact oc_dc (q := p + 1 + 1 + 1) ((oc_bd (pfx_u1 h).1).trans ((oc_bd (oc_s2 (pfx_u1 h).2)).trans rfl)) rfl
theorem oc_161 {c : ByteArray} {p a b : Nat} {v : Int} (h : (pfx (c.data.toList.drop p) [161, a, b] && (Reader.signed 16 (a * 256 + b) == v)) = true) : decode c p = .ok (.if_icmp .lt v, 3) := by
  simp only [Bool.and_eq_true, beq_iff_eq] at h
  obtain ⟨h, e⟩ := h
  subst e
  exact oc_dc (q := p + 1 + 1 + 1) ((oc_bd (pfx_u1 h).1).trans ((oc_bd (oc_s2 (pfx_u1 h).2)).trans rfl)) rfl
theorem oc_162 {c : ByteArray} {p a b : Nat} {v : Int} (h : (pfx (c.data.toList.drop p) [162, a, b] && (Reader.signed 16 (a * 256 + b) == v)) = true) : decode c p = .ok (.if_icmp .ge v, 3) := by
  simp only [Bool.and_eq_true, beq_iff_eq] at h
  obtain ⟨h, e⟩ := h
  subst e
  exact oc_dc (q := p + 1 + 1 + 1) ((oc_bd (pfx_u1 h).1).trans ((oc_bd (oc_s2 (pfx_u1 h).2)).trans rfl)) rfl
theorem oc_163 {c : ByteArray} {p a b : Nat} {v : Int} (h : (pfx (c.data.toList.drop p) [163, a, b] && (Reader.signed 16 (a * 256 + b) == v)) = true) : decode c p = .ok (.if_icmp .gt v, 3) := by
  simp only [Bool.and_eq_true, beq_iff_eq] at h
  obtain ⟨h, e⟩ := h
  subst e
  exact oc_dc (q := p + 1 + 1 + 1) ((oc_bd (pfx_u1 h).1).trans ((oc_bd (oc_s2 (pfx_u1 h).2)).trans rfl)) rfl
theorem oc_164 {c : ByteArray} {p a b : Nat} {v : Int} (h : (pfx (c.data.toList.drop p) [164, a, b] && (Reader.signed 16 (a * 256 + b) == v)) = true) : decode c p = .ok (.if_icmp .le v, 3) := by
  simp only [Bool.and_eq_true, beq_iff_eq] at h
  obtain ⟨h, e⟩ := h
  subst e
  exact oc_dc (q := p + 1 + 1 + 1) ((oc_bd (pfx_u1 h).1).trans ((oc_bd (oc_s2 (pfx_u1 h).2)).trans rfl)) rfl
theorem oc_167 {c : ByteArray} {p a b : Nat} {v : Int} (h : (pfx (c.data.toList.drop p) [167, a, b] && (Reader.signed 16 (a * 256 + b) == v)) = true) : decode c p = .ok (.goto v, 3) := by
  simp only [Bool.and_eq_true, beq_iff_eq] at h
  obtain ⟨h, e⟩ := h
  subst e
  exact oc_dc (q := p + 1 + 1 + 1) ((oc_bd (pfx_u1 h).1).trans ((oc_bd (oc_s2 (pfx_u1 h).2)).trans rfl)) rfl
theorem oc_172 {c : ByteArray} {p : Nat} (h : pfx (c.data.toList.drop p) [172] = true) : decode c p = .ok (.ireturn, 1) := oc_dc (q := p + 1) ((oc_bd (pfx_u1 h).1).trans rfl) rfl
theorem oc_173 {c : ByteArray} {p : Nat} (h : pfx (c.data.toList.drop p) [173] = true) : decode c p = .ok (.lreturn, 1) := oc_dc (q := p + 1) ((oc_bd (pfx_u1 h).1).trans rfl) rfl
theorem oc_176 {c : ByteArray} {p : Nat} (h : pfx (c.data.toList.drop p) [176] = true) : decode c p = .ok (.areturn, 1) := oc_dc (q := p + 1) ((oc_bd (pfx_u1 h).1).trans rfl) rfl
theorem oc_177 {c : ByteArray} {p : Nat} (h : pfx (c.data.toList.drop p) [177] = true) : decode c p = .ok (.return_, 1) := oc_dc (q := p + 1) ((oc_bd (pfx_u1 h).1).trans rfl) rfl
theorem oc_178 {c : ByteArray} {p a b v : Nat} (h : (pfx (c.data.toList.drop p) [178, a, b] && (a * 256 + b == v)) = true) : decode c p = .ok (.getstatic v, 3) := by
  simp only [Bool.and_eq_true, beq_iff_eq] at h
  obtain ⟨h, e⟩ := h
  subst e
  exact oc_dc (q := p + 1 + 1 + 1) ((oc_bd (pfx_u1 h).1).trans ((oc_bd (oc_u2 (pfx_u1 h).2).1).trans rfl)) rfl
theorem oc_180 {c : ByteArray} {p a b v : Nat} (h : (pfx (c.data.toList.drop p) [180, a, b] && (a * 256 + b == v)) = true) : decode c p = .ok (.getfield v, 3) := by
  simp only [Bool.and_eq_true, beq_iff_eq] at h
  obtain ⟨h, e⟩ := h
  subst e
  exact oc_dc (q := p + 1 + 1 + 1) ((oc_bd (pfx_u1 h).1).trans ((oc_bd (oc_u2 (pfx_u1 h).2).1).trans rfl)) rfl
theorem oc_181 {c : ByteArray} {p a b v : Nat} (h : (pfx (c.data.toList.drop p) [181, a, b] && (a * 256 + b == v)) = true) : decode c p = .ok (.putfield v, 3) := by
  simp only [Bool.and_eq_true, beq_iff_eq] at h
  obtain ⟨h, e⟩ := h
  subst e
  exact oc_dc (q := p + 1 + 1 + 1) ((oc_bd (pfx_u1 h).1).trans ((oc_bd (oc_u2 (pfx_u1 h).2).1).trans rfl)) rfl
theorem oc_182 {c : ByteArray} {p a b v : Nat} (h : (pfx (c.data.toList.drop p) [182, a, b] && (a * 256 + b == v)) = true) : decode c p = .ok (.invokevirtual v, 3) := by
  simp only [Bool.and_eq_true, beq_iff_eq] at h
  obtain ⟨h, e⟩ := h
  subst e
  exact oc_dc (q := p + 1 + 1 + 1) ((oc_bd (pfx_u1 h).1).trans ((oc_bd (oc_u2 (pfx_u1 h).2).1).trans rfl)) rfl
theorem oc_183 {c : ByteArray} {p a b v : Nat} (h : (pfx (c.data.toList.drop p) [183, a, b] && (a * 256 + b == v)) = true) : decode c p = .ok (.invokespecial v, 3) := by
  simp only [Bool.and_eq_true, beq_iff_eq] at h
  obtain ⟨h, e⟩ := h
  subst e
  exact oc_dc (q := p + 1 + 1 + 1) ((oc_bd (pfx_u1 h).1).trans ((oc_bd (oc_u2 (pfx_u1 h).2).1).trans rfl)) rfl
theorem oc_184 {c : ByteArray} {p a b v : Nat} (h : (pfx (c.data.toList.drop p) [184, a, b] && (a * 256 + b == v)) = true) : decode c p = .ok (.invokestatic v, 3) := by
  simp only [Bool.and_eq_true, beq_iff_eq] at h
  obtain ⟨h, e⟩ := h
  subst e
  exact oc_dc (q := p + 1 + 1 + 1) ((oc_bd (pfx_u1 h).1).trans ((oc_bd (oc_u2 (pfx_u1 h).2).1).trans rfl)) rfl
theorem oc_187 {c : ByteArray} {p a b v : Nat} (h : (pfx (c.data.toList.drop p) [187, a, b] && (a * 256 + b == v)) = true) : decode c p = .ok (.new v, 3) := by
  simp only [Bool.and_eq_true, beq_iff_eq] at h
  obtain ⟨h, e⟩ := h
  subst e
  exact oc_dc (q := p + 1 + 1 + 1) ((oc_bd (pfx_u1 h).1).trans ((oc_bd (oc_u2 (pfx_u1 h).2).1).trans rfl)) rfl
theorem oc_189 {c : ByteArray} {p a b v : Nat} (h : (pfx (c.data.toList.drop p) [189, a, b] && (a * 256 + b == v)) = true) : decode c p = .ok (.anewarray v, 3) := by
  simp only [Bool.and_eq_true, beq_iff_eq] at h
  obtain ⟨h, e⟩ := h
  subst e
  exact oc_dc (q := p + 1 + 1 + 1) ((oc_bd (pfx_u1 h).1).trans ((oc_bd (oc_u2 (pfx_u1 h).2).1).trans rfl)) rfl
theorem oc_190 {c : ByteArray} {p : Nat} (h : pfx (c.data.toList.drop p) [190] = true) : decode c p = .ok (.arraylength, 1) := oc_dc (q := p + 1) ((oc_bd (pfx_u1 h).1).trans rfl) rfl
theorem oc_198 {c : ByteArray} {p a b : Nat} {v : Int} (h : (pfx (c.data.toList.drop p) [198, a, b] && (Reader.signed 16 (a * 256 + b) == v)) = true) : decode c p = .ok (.ifnull v, 3) := by
  simp only [Bool.and_eq_true, beq_iff_eq] at h
  obtain ⟨h, e⟩ := h
  subst e
  exact oc_dc (q := p + 1 + 1 + 1) ((oc_bd (pfx_u1 h).1).trans ((oc_bd (oc_s2 (pfx_u1 h).2)).trans rfl)) rfl
theorem oc_199 {c : ByteArray} {p a b : Nat} {v : Int} (h : (pfx (c.data.toList.drop p) [199, a, b] && (Reader.signed 16 (a * 256 + b) == v)) = true) : decode c p = .ok (.ifnonnull v, 3) := by
  simp only [Bool.and_eq_true, beq_iff_eq] at h
  obtain ⟨h, e⟩ := h
  subst e
  exact oc_dc (q := p + 1 + 1 + 1) ((oc_bd (pfx_u1 h).1).trans ((oc_bd (oc_s2 (pfx_u1 h).2)).trans rfl)) rfl
