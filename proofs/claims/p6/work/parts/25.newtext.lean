theorem dX8_init_0 : decode cX8_init 0 = .ok (.aload_n 0, 1) := oc_42 (by decide +kernel)
theorem tw_168 : Cond.methodLink RX8 3 objectInit ∈ wsL_law := sg_8 _ (List.mem_of_getElem? (i := 0) rfl)
theorem tw_11 : Cond.instanceMethod objectInit ∈ wsL_law := sg_1 _ (List.mem_of_getElem? (i := 11) rfl)
theorem tw_12 : Cond.code objectInit ⟨#[0xb1]⟩ 1 none ∈ wsL_law := sg_1 _ (List.mem_of_getElem? (i := 12) rfl)
theorem dX8_init_1 : decode cX8_init 1 = .ok (.invokespecial 3, 3) := oc_183 (a := 0) (b := 3) (by decide +kernel)
theorem dX8_init_4 : decode cX8_init 4 = .ok (.aload_n 0, 1) := oc_42 (by decide +kernel)
theorem dX8_init_5 : decode cX8_init 5 = .ok (.bipush 20, 2) := oc_16 (a := 20) (by decide +kernel)
theorem tw_33 : Cond.arrayClass .int ∈ wsL_law := sg_2 _ (List.mem_of_getElem? (i := 9) rfl)
theorem dX8_init_7 : decode cX8_init 7 = .ok (.newarray .int, 2) := by decide +kernel
theorem dX8_init_9 : decode cX8_init 9 = .ok (.putfield 9, 3) := oc_181 (a := 0) (b := 9) (by decide +kernel)
theorem dX8_init_12 : decode cX8_init 12 = .ok (.aload_n 0, 1) := oc_42 (by decide +kernel)
theorem dX8_init_13 : decode cX8_init 13 = .ok (.bipush 21, 2) := oc_16 (a := 21) (by decide +kernel)
theorem dX8_init_15 : decode cX8_init 15 = .ok (.newarray .int, 2) := by decide +kernel
theorem dX8_init_17 : decode cX8_init 17 = .ok (.putfield 15, 3) := oc_181 (a := 0) (b := 15) (by decide +kernel)
theorem dX8_init_20 : decode cX8_init 20 = .ok (.aload_n 0, 1) := oc_42 (by decide +kernel)
theorem dX8_init_21 : decode cX8_init 21 = .ok (.sipush 300, 3) := oc_17 (a := 1) (b := 44) (by decide +kernel)
theorem dX8_init_24 : decode cX8_init 24 = .ok (.newarray .int, 2) := by decide +kernel
theorem dX8_init_26 : decode cX8_init 26 = .ok (.putfield 18, 3) := oc_181 (a := 0) (b := 18) (by decide +kernel)
theorem dX8_init_29 : decode cX8_init 29 = .ok (.return_, 1) := oc_177 (by decide +kernel)
theorem dX4_read_21 : decode cX4_read 21 = .ok (.aload_n 0, 1) := oc_42 (by decide +kernel)
theorem dX4_read_22 : decode cX4_read 22 = .ok (.iconst 0, 1) := oc_3 (by decide +kernel)
theorem dX4_read_23 : decode cX4_read 23 = .ok (.putfield 36, 3) := oc_181 (a := 0) (b := 36) (by decide +kernel)
theorem dX4_read_26 : decode cX4_read 26 = .ok (.aload_n 0, 1) := oc_42 (by decide +kernel)
theorem dX4_read_27 : decode cX4_read 27 = .ok (.getfield 12, 3) := oc_180 (a := 0) (b := 12) (by decide +kernel)
theorem tw_658 : Cond.methodLink RX4 39 yX6_rewind ∈ wsL_law := sg_28 _ (List.mem_of_getElem? (i := 10) rfl)
theorem tw_659 : Cond.instanceMethod yX6_rewind ∈ wsL_law := sg_28 _ (List.mem_of_getElem? (i := 11) rfl)
theorem tw_660 : Cond.selects RX6 yX6_rewind yX6_rewind ∈ wsL_law := sg_28 _ (List.mem_of_getElem? (i := 12) rfl)
theorem tw_661 : Cond.code yX6_rewind cX6_rewind 1 none ∈ wsL_law := sg_28 _ (List.mem_of_getElem? (i := 13) rfl)
theorem dX4_read_30 : decode cX4_read 30 = .ok (.invokevirtual 39, 3) := oc_182 (a := 0) (b := 39) (by decide +kernel)
theorem dX4_read_33 : decode cX4_read 33 = .ok (.aload_n 0, 1) := oc_42 (by decide +kernel)
theorem dX4_read_34 : decode cX4_read 34 = .ok (.getfield 12, 3) := oc_180 (a := 0) (b := 12) (by decide +kernel)
theorem dX4_read_37 : decode cX4_read 37 = .ok (.invokevirtual 42, 3) := oc_182 (a := 0) (b := 42) (by decide +kernel)
theorem dX4_read_40 : decode cX4_read 40 = .ok (.iconst 0, 1) := oc_3 (by decide +kernel)
theorem dX4_read_41 : decode cX4_read 41 = .ok (.istore_n 1, 1) := oc_60 (by decide +kernel)
theorem dX4_read_42 : decode cX4_read 42 = .ok (.iload_n 1, 1) := oc_27 (by decide +kernel)
theorem dX4_read_43 : decode cX4_read 43 = .ok (.sipush 300, 3) := oc_17 (a := 1) (b := 44) (by decide +kernel)
theorem dX4_read_46 : decode cX4_read 46 = .ok (.if_icmp .gt 39, 3) := oc_163 (a := 0) (b := 39) (by decide +kernel)
theorem dX4_read_85 : decode cX4_read 85 = .ok (.aload_n 0, 1) := oc_42 (by decide +kernel)
theorem dX4_read_86 : decode cX4_read 86 = .ok (.getfield 28, 3) := oc_180 (a := 0) (b := 28) (by decide +kernel)
theorem dX4_read_49 : decode cX4_read 49 = .ok (.aload_n 0, 1) := oc_42 (by decide +kernel)
theorem dX4_read_50 : decode cX4_read 50 = .ok (.getfield 18, 3) := oc_180 (a := 0) (b := 18) (by decide +kernel)
theorem dX4_read_53 : decode cX4_read 53 = .ok (.ifCond .ne 32, 3) := oc_154 (a := 0) (b := 32) (by decide +kernel)
theorem dX4_read_56 : decode cX4_read 56 = .ok (.aload_n 0, 1) := oc_42 (by decide +kernel)
theorem dX4_read_57 : decode cX4_read 57 = .ok (.getfield 12, 3) := oc_180 (a := 0) (b := 12) (by decide +kernel)
theorem dX4_read_60 : decode cX4_read 60 = .ok (.getfield 45, 3) := oc_180 (a := 0) (b := 45) (by decide +kernel)
theorem dX4_read_63 : decode cX4_read 63 = .ok (.bipush 33, 2) := oc_16 (a := 33) (by decide +kernel)
theorem dX4_read_65 : decode cX4_read 65 = .ok (.if_icmp .eq 20, 3) := oc_159 (a := 0) (b := 20) (by decide +kernel)
theorem dX4_read_68 : decode cX4_read 68 = .ok (.aload_n 0, 1) := oc_42 (by decide +kernel)
theorem tw_741 : Cond.methodLink RX4 48 yX4_readClause ∈ wsL_law := sg_31 _ (List.mem_of_getElem? (i := 21) rfl)
theorem tw_742 : Cond.instanceMethod yX4_readClause ∈ wsL_law := sg_31 _ (List.mem_of_getElem? (i := 22) rfl)
theorem tw_743 : Cond.selects RX4 yX4_readClause yX4_readClause ∈ wsL_law := sg_31 _ (List.mem_of_getElem? (i := 23) rfl)
theorem tw_744 : Cond.code yX4_readClause cX4_readClause 2 none ∈ wsL_law := sg_32 _ (List.mem_of_getElem? (i := 0) rfl)
theorem dX4_read_69 : decode cX4_read 69 = .ok (.invokevirtual 48, 3) := oc_182 (a := 0) (b := 48) (by decide +kernel)
theorem dX4_read_72 : decode cX4_read 72 = .ok (.aload_n 0, 1) := oc_42 (by decide +kernel)
theorem dX4_read_73 : decode cX4_read 73 = .ok (.getfield 12, 3) := oc_180 (a := 0) (b := 12) (by decide +kernel)
theorem dX4_read_76 : decode cX4_read 76 = .ok (.invokevirtual 42, 3) := oc_182 (a := 0) (b := 42) (by decide +kernel)
theorem dX4_read_79 : decode cX4_read 79 = .ok (.iinc 1 1, 3) := oc_132 (b := 1) (by decide +kernel)
theorem dX4_read_82 : decode cX4_read 82 = .ok (.goto (-40), 3) := oc_167 (a := 255) (b := 216) (by decide +kernel)
theorem dX4_read_0 : decode cX4_read 0 = .ok (.aload_n 0, 1) := oc_42 (by decide +kernel)
theorem dX4_read_1 : decode cX4_read 1 = .ok (.iconst 0, 1) := oc_3 (by decide +kernel)
theorem dX4_read_2 : decode cX4_read 2 = .ok (.putfield 18, 3) := oc_181 (a := 0) (b := 18) (by decide +kernel)
theorem dX4_read_5 : decode cX4_read 5 = .ok (.aload_n 0, 1) := oc_42 (by decide +kernel)
theorem dX4_read_6 : decode cX4_read 6 = .ok (.iconst (-1), 1) := oc_2 (by decide +kernel)
theorem dX4_read_7 : decode cX4_read 7 = .ok (.putfield 22, 3) := oc_181 (a := 0) (b := 22) (by decide +kernel)
theorem dX4_read_10 : decode cX4_read 10 = .ok (.aload_n 0, 1) := oc_42 (by decide +kernel)
theorem tw_157 : Cond.classLink RX4 25 RX8 ∈ wsL_law := sg_7 _ (List.mem_of_getElem? (i := 13) rfl)
theorem tw_158 : Cond.instantiable RX8 4 ∈ wsL_law := sg_7 _ (List.mem_of_getElem? (i := 14) rfl)
theorem dX4_read_11 : decode cX4_read 11 = .ok (.new 25, 3) := oc_187 (a := 0) (b := 25) (by decide +kernel)
theorem dX4_read_14 : decode cX4_read 14 = .ok (.dup, 1) := oc_89 (by decide +kernel)
theorem tw_167 : Cond.code yX8_init cX8_init 1 none ∈ wsL_law := sg_7 _ (List.mem_of_getElem? (i := 23) rfl)
theorem dX4_read_15 : decode cX4_read 15 = .ok (.invokespecial 27, 3) := oc_183 (a := 0) (b := 27) (by decide +kernel)
theorem dX4_read_18 : decode cX4_read 18 = .ok (.putfield 28, 3) := oc_181 (a := 0) (b := 28) (by decide +kernel)
theorem dX4_read_89 : decode cX4_read 89 = .ok (.areturn, 1) := oc_176 (by decide +kernel)
theorem dX11_text_26 : decode cX11_text 26 = .ok (.astore_n 2, 1) := oc_77 (by decide +kernel)
theorem dX11_text_27 : decode cX11_text 27 = .ok (.aload_n 0, 1) := oc_42 (by decide +kernel)
theorem dX11_text_28 : decode cX11_text 28 = .ok (.getfield 32, 3) := oc_180 (a := 0) (b := 32) (by decide +kernel)
theorem dX11_text_31 : decode cX11_text 31 = .ok (.getfield 195, 3) := oc_180 (a := 0) (b := 195) (by decide +kernel)
theorem dX11_text_34 : decode cX11_text 34 = .ok (.iconst 0, 1) := oc_3 (by decide +kernel)
theorem dX11_text_35 : decode cX11_text 35 = .ok (.putfield 199, 3) := oc_181 (a := 0) (b := 199) (by decide +kernel)
theorem dX11_text_38 : decode cX11_text 38 = .ok (.aload_n 0, 1) := oc_42 (by decide +kernel)
theorem dX11_text_39 : decode cX11_text 39 = .ok (.getfield 32, 3) := oc_180 (a := 0) (b := 32) (by decide +kernel)
theorem dX11_text_42 : decode cX11_text 42 = .ok (.getfield 221, 3) := oc_180 (a := 0) (b := 221) (by decide +kernel)
theorem dX11_text_45 : decode cX11_text 45 = .ok (.ifCond .eq 5, 3) := oc_153 (a := 0) (b := 5) (by decide +kernel)
theorem dX11_text_50 : decode cX11_text 50 = .ok (.aload_n 1, 1) := oc_43 (by decide +kernel)
theorem tw_651 : Cond.fieldLink RX11 224 "RingsUnder$Law" "texts" "[LRingsUnder$Text;" ∈ wsL_law := sg_28 _ (List.mem_of_getElem? (i := 3) rfl)
theorem dX11_text_51 : decode cX11_text 51 = .ok (.getfield 224, 3) := oc_180 (a := 0) (b := 224) (by decide +kernel)
theorem dX11_text_54 : decode cX11_text 54 = .ok (.aload_n 1, 1) := oc_43 (by decide +kernel)
theorem dX11_text_55 : decode cX11_text 55 = .ok (.getfield 212, 3) := oc_180 (a := 0) (b := 212) (by decide +kernel)
theorem dX11_text_58 : decode cX11_text 58 = .ok (.aload_n 2, 1) := oc_44 (by decide +kernel)
theorem dX11_text_59 : decode cX11_text 59 = .ok (.aastore, 1) := oc_83 (by decide +kernel)
theorem dX11_text_60 : decode cX11_text 60 = .ok (.aload_n 1, 1) := oc_43 (by decide +kernel)
theorem dX11_text_61 : decode cX11_text 61 = .ok (.dup, 1) := oc_89 (by decide +kernel)
theorem dX11_text_62 : decode cX11_text 62 = .ok (.getfield 212, 3) := oc_180 (a := 0) (b := 212) (by decide +kernel)
theorem dX11_text_65 : decode cX11_text 65 = .ok (.iconst 1, 1) := oc_4 (by decide +kernel)
theorem dX11_text_66 : decode cX11_text 66 = .ok (.iadd, 1) := oc_96 (by decide +kernel)
theorem dX11_text_67 : decode cX11_text 67 = .ok (.putfield 212, 3) := oc_181 (a := 0) (b := 212) (by decide +kernel)
theorem dX11_text_70 : decode cX11_text 70 = .ok (.aload_n 1, 1) := oc_43 (by decide +kernel)
theorem dX11_text_71 : decode cX11_text 71 = .ok (.getfield 212, 3) := oc_180 (a := 0) (b := 212) (by decide +kernel)
theorem dX11_text_74 : decode cX11_text 74 = .ok (.iconst 1, 1) := oc_4 (by decide +kernel)
theorem dX11_text_75 : decode cX11_text 75 = .ok (.isub, 1) := oc_100 (by decide +kernel)
theorem dX11_text_48 : decode cX11_text 48 = .ok (.iconst (-1), 1) := oc_2 (by decide +kernel)
theorem dX11_text_0 : decode cX11_text 0 = .ok (.aload_n 0, 1) := oc_42 (by decide +kernel)
theorem dX11_text_1 : decode cX11_text 1 = .ok (.getfield 10, 3) := oc_180 (a := 0) (b := 10) (by decide +kernel)
theorem dX11_text_4 : decode cX11_text 4 = .ok (.getfield 208, 3) := oc_180 (a := 0) (b := 208) (by decide +kernel)
theorem dX11_text_7 : decode cX11_text 7 = .ok (.astore_n 1, 1) := oc_76 (by decide +kernel)
theorem dX11_text_8 : decode cX11_text 8 = .ok (.aload_n 1, 1) := oc_43 (by decide +kernel)
theorem dX11_text_9 : decode cX11_text 9 = .ok (.getfield 212, 3) := oc_180 (a := 0) (b := 212) (by decide +kernel)
theorem dX11_text_12 : decode cX11_text 12 = .ok (.bipush 10, 2) := oc_16 (a := 10) (by decide +kernel)
theorem dX11_text_14 : decode cX11_text 14 = .ok (.if_icmp .lt 5, 3) := oc_161 (a := 0) (b := 5) (by decide +kernel)
theorem dX11_text_19 : decode cX11_text 19 = .ok (.aload_n 0, 1) := oc_42 (by decide +kernel)
theorem dX11_text_20 : decode cX11_text 20 = .ok (.getfield 32, 3) := oc_180 (a := 0) (b := 32) (by decide +kernel)
theorem tw_652 : Cond.methodLink RX11 217 yX4_read ∈ wsL_law := sg_28 _ (List.mem_of_getElem? (i := 4) rfl)
theorem tw_653 : Cond.instanceMethod yX4_read ∈ wsL_law := sg_28 _ (List.mem_of_getElem? (i := 5) rfl)
theorem tw_654 : Cond.selects RX4 yX4_read yX4_read ∈ wsL_law := sg_28 _ (List.mem_of_getElem? (i := 6) rfl)
theorem tw_655 : Cond.code yX4_read cX4_read 2 (some (.object "RingsUnder$Text")) ∈ wsL_law := sg_28 _ (List.mem_of_getElem? (i := 7) rfl)
theorem dX11_text_23 : decode cX11_text 23 = .ok (.invokevirtual 217, 3) := oc_182 (a := 0) (b := 217) (by decide +kernel)
theorem dX11_text_18 : decode cX11_text 18 = .ok (.ireturn, 1) := oc_172 (by decide +kernel)
theorem dX11_text_49 : decode cX11_text 49 = .ok (.ireturn, 1) := oc_172 (by decide +kernel)
theorem dX11_text_76 : decode cX11_text 76 = .ok (.ireturn, 1) := oc_172 (by decide +kernel)
theorem dX11_text_17 : decode cX11_text 17 = .ok (.iconst (-1), 1) := oc_2 (by decide +kernel)
/-! ===== a new text ===== -/
def EX (σ σ' : pq_S) (tg tg' : Nat → Nat) : Prop := ∀ b, b ∈ σ.1 → b ∈ σ'.1 ∧ σ'.2.1 b = σ.2.1 b ∧ σ'.2.2.2 b = σ.2.2.2 b ∧ tg' b = tg b ∧ ∀ f, f ≠ 131 → σ'.2.2.1 f b = σ.2.2.1 f b
theorem EX_rf {σ : pq_S} {tg : Nat → Nat} : EX σ σ tg tg := fun _ h => ⟨h, rfl, rfl, rfl, fun _ _ => rfl⟩
theorem ftp_ge (f : Nat) (h : ¬ f < 416) : ftp f = (99, 0, 0) := by
  unfold ftp
  rw [show ftpl[f / 32]? = none from List.getElem?_eq_none (by show 13 ≤ f / 32; omega)]
  rfl
theorem rIt_ge (f : Nat) (h : ¬ f < 416) : rIt f = (-2147483648, 2147483647) := by
  unfold rIt
  rw [show rItl[f / 32]? = none from List.getElem?_eq_none (by show 13 ≤ f / 32; omega)]
  rfl
theorem rAt_ge (f : Nat) (h : ¬ f < 416) : rAt f = (-2147483648, 2147483647) := by
  unfold rAt
  rw [show rAtl[f / 32]? = none from List.getElem?_eq_none (by show 13 ≤ f / 32; omega)]
  rfl
theorem ftp_8l : ∀ f, f < 416 → (ftp f).1 = 8 → f = 257 ∨ f = 258 ∨ f = 259 := by decide +kernel
theorem ftp_13l : ∀ f, f < 416 → (ftp f).1 ≠ 13 := by decide +kernel
theorem rIt_0l : ∀ f, f < 416 → (rIt f).1 ≤ 0 ∧ 0 ≤ (rIt f).2 := by decide +kernel
theorem rAt_0l : ∀ f, f < 416 → (rAt f).1 ≤ 0 ∧ 0 ≤ (rAt f).2 := by decide +kernel
theorem ftp_8 (f : Nat) (h : (ftp f).1 = 8) : f = 257 ∨ f = 258 ∨ f = 259 := by
  by_cases hf : f < 416
  · exact ftp_8l f hf h
  · rw [ftp_ge f hf] at h; exact absurd h (by decide +kernel)
theorem ftp_13 (f : Nat) : (ftp f).1 ≠ 13 := by
  by_cases hf : f < 416
  · exact ftp_13l f hf
  · rw [ftp_ge f hf]; decide
theorem rg0 {lo hi : Int} (h : lo ≤ 0 ∧ 0 ≤ hi) : rg (0 : Int32) lo hi := by
  have z : (0 : Int32).toInt = 0 := rfl
  exact ⟨by rw [z]; exact h.1, by rw [z]; exact h.2⟩
theorem rIt_0 (f : Nat) : rg (0 : Int32) (rIt f).1 (rIt f).2 := by
  by_cases hf : f < 416
  · exact rg0 (rIt_0l f hf)
  · rw [rIt_ge f hf]; exact rg0 ⟨by decide +kernel, by decide +kernel⟩
theorem rAt_0 (f : Nat) : rg (0 : Int32) (rAt f).1 (rAt f).2 := by
  by_cases hf : f < 416
  · exact rg0 (rAt_0l f hf)
  · rw [rAt_ge f hf]; exact rg0 ⟨by decide +kernel, by decide +kernel⟩
def NTX (σ σ1 : pq_S) (q0 q1 q2 q3 : Nat) : Prop := (q0 ∉ σ.1 ∧ q1 ∉ σ.1 ∧ q2 ∉ σ.1 ∧ q3 ∉ σ.1) ∧ (q0 ≠ q1 ∧ q0 ≠ q2 ∧ q0 ≠ q3 ∧ q1 ≠ q2 ∧ q1 ≠ q3 ∧ q2 ≠ q3) ∧ (∀ b, b ∈ σ1.1 ↔ b ∈ σ.1 ∨ b = q0 ∨ b = q1 ∨ b = q2 ∨ b = q3) ∧ (∀ b, b ∈ σ.1 → σ1.2.1 b = σ.2.1 b ∧ σ1.2.2.2 b = σ.2.2.2 b ∧ ∀ f, σ1.2.2.1 f b = σ.2.2.1 f b) ∧ (σ1.2.1 q0 = 8 ∧ σ1.2.1 q1 = 13 ∧ σ1.2.1 q2 = 13 ∧ σ1.2.1 q3 = 13) ∧ (σ1.2.2.2 q1 = 20 ∧ σ1.2.2.2 q2 = 21 ∧ σ1.2.2.2 q3 = 300) ∧ σ1.2.2.1 257 q0 = some q1 ∧ σ1.2.2.1 258 q0 = some q2 ∧ σ1.2.2.1 259 q0 = some q3
def tgN (tg : Nat → Nat) (q1 q2 q3 : Nat) : Nat → Nat := fun b => if b = q1 then 257 else if b = q2 then 258 else if b = q3 then 259 else tg b
def zr3 (ri : Nat → Nat → Int32) (q1 q2 q3 : Nat) : Nat → Nat → Int32 := va_up (va_up (va_up ri q1 (fun _ => 0)) q2 (fun _ => 0)) q3 (fun _ => 0)
theorem tgN_o {tg : Nat → Nat} {q1 q2 q3 b : Nat} (h1 : b ≠ q1) (h2 : b ≠ q2) (h3 : b ≠ q3) : tgN tg q1 q2 q3 b = tg b := by
  unfold tgN
  rw [if_neg h1, if_neg h2, if_neg h3]
theorem zr3_o {ri : Nat → Nat → Int32} {q1 q2 q3 b : Nat} (h1 : b ≠ q1) (h2 : b ≠ q2) (h3 : b ≠ q3) : zr3 ri q1 q2 q3 b = ri b := by
  unfold zr3
  rw [va_up_ne _ _ h3, va_up_ne _ _ h2, va_up_ne _ _ h1]
theorem NTX_of {σ sa sb sc sd : pq_S} {I Ia : Nat → Nat → Int32} {q0 q1 q2 q3 : Nat} (g0 : Ns q0 8 σ sa I Ia) (g1 : As 257 q0 q1 13 20 sa sb) (g2 : As 258 q0 q2 13 21 sb sc) (g3 : As 259 q0 q3 13 300 sc sd) : NTX σ sd q0 q1 q2 q3 := by
  obtain ⟨h0, rfl, -⟩ := g0
  obtain ⟨h1, rfl⟩ := g1
  obtain ⟨h2, rfl⟩ := g2
  obtain ⟨h3, rfl⟩ := g3
  simp only [List.mem_append, List.mem_singleton, not_or] at h1 h2 h3
  obtain ⟨n1, d1⟩ := h1
  obtain ⟨⟨n2, d20⟩, d21⟩ := h2
  obtain ⟨⟨⟨n3, d30⟩, d31⟩, d32⟩ := h3
  refine ⟨⟨h0, n1, n2, n3⟩, ⟨Ne.symm d1, Ne.symm d20, Ne.symm d30, Ne.symm d21, Ne.symm d31, Ne.symm d32⟩, fun b => ?_, fun b hb => ?_, ⟨?_, ?_, ?_, ?_⟩, ⟨?_, ?_, ?_⟩, ?_, ?_, ?_⟩
  · show b ∈ (((σ.1 ++ [q0]) ++ [q1]) ++ [q2]) ++ [q3] ↔ _
    simp only [List.mem_append, List.mem_singleton]
    constructor
    · rintro ((((h | h) | h) | h) | h)
      · exact Or.inl h
      · exact Or.inr (Or.inl h)
      · exact Or.inr (Or.inr (Or.inl h))
      · exact Or.inr (Or.inr (Or.inr (Or.inl h)))
      · exact Or.inr (Or.inr (Or.inr (Or.inr h)))
    · rintro (h | h | h | h | h)
      · exact Or.inl (Or.inl (Or.inl (Or.inl h)))
      · exact Or.inl (Or.inl (Or.inl (Or.inr h)))
      · exact Or.inl (Or.inl (Or.inr h))
      · exact Or.inl (Or.inr h)
      · exact Or.inr h
  · have b0 : b ≠ q0 := fun z => h0 (z ▸ hb)
    have b1 : b ≠ q1 := fun z => n1 (z ▸ hb)
    have b2 : b ≠ q2 := fun z => n2 (z ▸ hb)
    have b3 : b ≠ q3 := fun z => n3 (z ▸ hb)
    refine ⟨?_, ?_, fun f => ?_⟩
    · show va_up (va_up (va_up (va_up σ.2.1 q0 8) q1 13) q2 13) q3 13 b = _
      rw [va_up_ne _ _ b3, va_up_ne _ _ b2, va_up_ne _ _ b1, va_up_ne _ _ b0]
    · show va_up (va_up (va_up σ.2.2.2 q1 20) q2 21) q3 300 b = _
      rw [va_up_ne _ _ b3, va_up_ne _ _ b2, va_up_ne _ _ b1]
    · show pq_u (pq_u (pq_u (pq_R0 σ.2.2.1 q0) 257 q0 (some q1)) 258 q0 (some q2)) 259 q0 (some q3) f b = _
      rw [pq_ua _ _ _ _ b0, pq_ua _ _ _ _ b0, pq_ua _ _ _ _ b0]
      exact va_up_ne _ _ b0
  · show va_up (va_up (va_up (va_up σ.2.1 q0 8) q1 13) q2 13) q3 13 q0 = _
    rw [va_up_ne _ _ (Ne.symm d30), va_up_ne _ _ (Ne.symm d20), va_up_ne _ _ (Ne.symm d1), va_up_self]
  · show va_up (va_up (va_up (va_up σ.2.1 q0 8) q1 13) q2 13) q3 13 q1 = _
    rw [va_up_ne _ _ (Ne.symm d31), va_up_ne _ _ (Ne.symm d21), va_up_self]
  · show va_up (va_up (va_up (va_up σ.2.1 q0 8) q1 13) q2 13) q3 13 q2 = _
    rw [va_up_ne _ _ (Ne.symm d32), va_up_self]
  · exact va_up_self _ _ _
  · show va_up (va_up (va_up σ.2.2.2 q1 20) q2 21) q3 300 q1 = _
    rw [va_up_ne _ _ (Ne.symm d31), va_up_ne _ _ (Ne.symm d21), va_up_self]
  · show va_up (va_up (va_up σ.2.2.2 q1 20) q2 21) q3 300 q2 = _
    rw [va_up_ne _ _ (Ne.symm d32), va_up_self]
  · exact va_up_self _ _ _
  · show pq_u (pq_u (pq_u (pq_R0 σ.2.2.1 q0) 257 q0 (some q1)) 258 q0 (some q2)) 259 q0 (some q3) 257 q0 = _
    rw [pq_uf _ _ _ (by decide +kernel), pq_uf _ _ _ (by decide +kernel), pq_us]
  · show pq_u (pq_u (pq_u (pq_R0 σ.2.2.1 q0) 257 q0 (some q1)) 258 q0 (some q2)) 259 q0 (some q3) 258 q0 = _
    rw [pq_uf _ _ _ (by decide +kernel), pq_us]
  · show pq_u (pq_u (pq_u (pq_R0 σ.2.2.1 q0) 257 q0 (some q1)) 258 q0 (some q2)) 259 q0 (some q3) 259 q0 = _
    exact pq_us _ _ _ _
theorem SH_new {σ σ1 : pq_S} {tg : Nat → Nat} {q0 q1 q2 q3 : Nat} (hSH : SH σ tg) (h : NTX σ σ1 q0 q1 q2 q3) : SH σ1 (tgN tg q1 q2 q3) := by
  obtain ⟨⟨n0, n1, n2, n3⟩, ⟨d01, d02, d03, d12, d13, d23⟩, hm, ho, ⟨k0, k1, k2, k3⟩, ⟨l1, l2, l3⟩, r1, r2, r3⟩ := h
  intro a ha f hf
  rcases (hm a).mp ha with h | h | h | h | h
  · obtain ⟨w, e1, e2, e3, e4⟩ := hSH a h f (by rw [← (ho a h).1]; exact hf)
    have hw := ho w e2
    refine ⟨w, ((ho a h).2.2 f).trans e1, (hm w).mpr (Or.inl e2), hw.1.trans e3, fun h13 => ⟨hw.2.1.trans (e4 h13).1, ?_⟩⟩
    rw [tgN_o (b := w) (q1 := q1) (q2 := q2) (q3 := q3) (fun q => n1 (q ▸ e2)) (fun q => n2 (q ▸ e2)) (fun q => n3 (q ▸ e2))]
    exact (e4 h13).2
  · rw [h, k0] at hf
    rw [h]
    rcases ftp_8 f hf with e | e | e
    · rw [e]; exact ⟨q1, r1, (hm q1).mpr (Or.inr (Or.inr (Or.inl rfl))), k1, fun _ => ⟨l1, by unfold tgN; rw [if_pos rfl]⟩⟩
    · rw [e]; exact ⟨q2, r2, (hm q2).mpr (Or.inr (Or.inr (Or.inr (Or.inl rfl)))), k2, fun _ => ⟨l2, by unfold tgN; rw [if_neg (Ne.symm d12), if_pos rfl]⟩⟩
    · rw [e]; exact ⟨q3, r3, (hm q3).mpr (Or.inr (Or.inr (Or.inr (Or.inr rfl)))), k3, fun _ => ⟨l3, by unfold tgN; rw [if_neg (Ne.symm d13), if_neg (Ne.symm d23), if_pos rfl]⟩⟩
  · rw [h, k1] at hf; exact absurd hf (ftp_13 f)
  · rw [h, k2] at hf; exact absurd hf (ftp_13 f)
  · rw [h, k3] at hf; exact absurd hf (ftp_13 f)
theorem GS_new {σ σ1 : pq_S} {tg : Nat → Nat} {q0 q1 q2 q3 : Nat} {I ri : Nat → Nat → Int32} {rq : Nat → Nat → Option Nat} (hSH : SH σ tg) (hG : GS tg σ I ri rq) (h : NTX σ σ1 q0 q1 q2 q3) : GS (tgN tg q1 q2 q3) σ1 (pq_I0 I q0) (zr3 ri q1 q2 q3) rq := by
  obtain ⟨⟨n0, n1, n2, n3⟩, ⟨d01, d02, d03, d12, d13, d23⟩, hm, ho, ⟨k0, k1, k2, k3⟩, ⟨l1, l2, l3⟩, r1, r2, r3⟩ := h
  refine ⟨fun f a => ?_, fun q j => ?_, fun q j w e => ?_, ?_⟩
  · show rg (va_up (I f) q0 0 a) _ _
    by_cases ha : a = q0
    · rw [ha, va_up_self]; exact rIt_0 f
    · rw [va_up_ne _ _ ha]; exact hG.1 f a
  · by_cases h3 : q = q3
    · rw [h3, show zr3 ri q1 q2 q3 q3 = fun _ => 0 from va_up_self _ _ _]; exact rAt_0 _
    · by_cases h2 : q = q2
      · rw [h2, show zr3 ri q1 q2 q3 q2 = fun _ => 0 from by unfold zr3; rw [va_up_ne _ _ d23, va_up_self]]; exact rAt_0 _
      · by_cases h1 : q = q1
        · rw [h1, show zr3 ri q1 q2 q3 q1 = fun _ => 0 from by unfold zr3; rw [va_up_ne _ _ d13, va_up_ne _ _ d12, va_up_self]]; exact rAt_0 _
        · rw [zr3_o h1 h2 h3, tgN_o h1 h2 h3]; exact hG.2.1 q j
  · obtain ⟨a, b⟩ := hG.2.2.1 q j w e
    exact ⟨(hm w).mpr (Or.inl a), (ho w a).1.trans b⟩
  · intro w hw hk q hq c hc
    rcases (hm w).mp hw with h | h | h | h | h
    · have hk2 : σ.2.1 w = 8 := (ho w h).1 ▸ hk
      have hq2 : σ.2.2.1 258 w = some q := ((ho w h).2.2 258) ▸ hq
      obtain ⟨z, e1, e2, -⟩ := sh_a hSH 258 (ci := 8) (kd := 13) (len := 21) rfl (by decide +kernel) h hk2
      rw [hq2] at e1
      have e3 := Option.some.inj e1
      rw [← e3] at e2
      rw [zr3_o (b := q) (q1 := q1) (q2 := q2) (q3 := q3) (fun y => n1 (y ▸ e2)) (fun y => n2 (y ▸ e2)) (fun y => n3 (y ▸ e2))]
      have hc2 : (c : Int) < (I 256 w).toInt := by
        rw [show pq_I0 I q0 256 w = I 256 w from va_up_ne _ _ (fun y => n0 (y ▸ h))] at hc
        exact hc
      exact hG.2.2.2 w h hk2 q hq2 c hc2
    · rw [h, show pq_I0 I q0 256 q0 = 0 from va_up_self _ _ _] at hc
      have z : (0 : Int32).toInt = 0 := rfl
      rw [z] at hc
      omega
    · rw [h, k1] at hk; exact absurd hk (by decide +kernel)
    · rw [h, k2] at hk; exact absurd hk (by decide +kernel)
    · rw [h, k3] at hk; exact absurd hk (by decide +kernel)
theorem FI_new {σ σ1 : pq_S} {tg : Nat → Nat} {q0 q1 q2 q3 : Nat} (hSH : SH σ tg) (hF : FI σ) (h : NTX σ σ1 q0 q1 q2 q3) : FI σ1 := by
  obtain ⟨⟨n0, n1, n2, n3⟩, ⟨d01, d02, d03, d12, d13, d23⟩, hm, ho, ⟨k0, k1, k2, k3⟩, ⟨l1, l2, l3⟩, r1, r2, r3⟩ := h
  have key : ∀ w, w ∈ σ1.1 → σ1.2.1 w = 8 → w = q0 ∨ w ∈ σ.1 := fun w hw hk => by
    rcases (hm w).mp hw with h | h | h | h | h
    · exact Or.inr h
    · exact Or.inl h
    · rw [h, k1] at hk; exact absurd hk (by decide +kernel)
    · rw [h, k2] at hk; exact absurd hk (by decide +kernel)
    · rw [h, k3] at hk; exact absurd hk (by decide +kernel)
  have old : ∀ w q, w ∈ σ.1 → σ1.2.1 w = 8 → σ1.2.2.1 258 w = some q → q ∈ σ.1 := fun w q hw hk hq => by
    have hk2 : σ.2.1 w = 8 := (ho w hw).1 ▸ hk
    have hq2 : σ.2.2.1 258 w = some q := ((ho w hw).2.2 258) ▸ hq
    obtain ⟨z, e1, e2, -⟩ := sh_a hSH 258 (ci := 8) (kd := 13) (len := 21) rfl (by decide +kernel) hw hk2
    rw [hq2] at e1
    rw [Option.some.inj e1]
    exact e2
  intro w v q hw hv hkw hkv hqw hqv
  rcases key w hw hkw with h | h
  · rcases key v hv hkv with g | g
    · rw [h, g]
    · rw [h, r2] at hqw
      have e := Option.some.inj hqw
      exact absurd (old v q g hkv hqv) (by rw [← e]; exact n2)
  · rcases key v hv hkv with g | g
    · rw [g, r2] at hqv
      have e := Option.some.inj hqv
      exact absurd (old w q h hkw hqw) (by rw [← e]; exact n2)
    · exact hF w v q h g ((ho w h).1 ▸ hkw) ((ho v g).1 ▸ hkv) (((ho w h).2.2 258) ▸ hqw) (((ho v g).2.2 258) ▸ hqv)
theorem SH_ps {σ σ1 : pq_S} {tg : Nat → Nat} {a q : Nat} (hSH : SH σ tg) (h : Ps 131 a q σ σ1) (hq : q ∈ σ.1) (hk : σ.2.1 q = 8) : SH σ1 tg := by
  subst h
  intro b hb f hf
  by_cases hfa : f = 131 ∧ b = a
  · rw [hfa.1, hfa.2]
    exact ⟨q, (show pq_u σ.2.2.1 131 a (some q) 131 a = some q from pq_us _ _ _ _), hq, hk, fun h13 => absurd h13 (by decide +kernel)⟩
  · obtain ⟨w, e1, e2⟩ := hSH b hb f hf
    refine ⟨w, ?_, e2⟩
    show pq_u σ.2.2.1 131 a (some q) f b = _
    by_cases hff : f = 131
    · rw [hff] at e1 ⊢
      rw [pq_ua _ _ _ _ (fun z => hfa ⟨hff, z⟩)]
      exact e1
    · rw [pq_uf _ _ _ hff]
      exact e1
theorem GS_ps {σ σ1 : pq_S} {tg : Nat → Nat} {a q : Nat} {I ri : Nat → Nat → Int32} {rq : Nat → Nat → Option Nat} (hG : GS tg σ I ri rq) (h : Ps 131 a q σ σ1) : GS tg σ1 I ri rq := by
  subst h
  refine ⟨hG.1, hG.2.1, hG.2.2.1, fun w hw hk z hz c hc => ?_⟩
  have hz2 : pq_u σ.2.2.1 131 a (some q) 258 w = some z := hz
  rw [pq_uf _ _ _ (by decide +kernel)] at hz2
  exact hG.2.2.2 w hw hk z hz2 c hc
theorem FI_ps {σ σ1 : pq_S} {a q : Nat} (hF : FI σ) (h : Ps 131 a q σ σ1) : FI σ1 := by
  subst h
  intro w v z hw hv hkw hkv hzw hzv
  have h1 : pq_u σ.2.2.1 131 a (some q) 258 w = some z := hzw
  have h2 : pq_u σ.2.2.1 131 a (some q) 258 v = some z := hzv
  rw [pq_uf _ _ _ (by decide +kernel)] at h1 h2
  exact hF w v z hw hv hkw hkv h1 h2
theorem EX_new {σ σ1 σ2 : pq_S} {tg : Nat → Nat} {a q0 q1 q2 q3 : Nat} (h : NTX σ σ1 q0 q1 q2 q3) (h2 : Ps 131 a q0 σ1 σ2) : EX σ σ2 tg (tgN tg q1 q2 q3) := by
  obtain ⟨⟨n0, n1, n2, n3⟩, -, hm, ho, -⟩ := h
  subst h2
  intro b hb
  refine ⟨(hm b).mpr (Or.inl hb), (ho b hb).1, (ho b hb).2.1, tgN_o (fun q => n1 (q ▸ hb)) (fun q => n2 (q ▸ hb)) (fun q => n3 (q ▸ hb)), fun f hf => ?_⟩
  show pq_u σ1.2.2.1 131 a (some q0) f b = _
  rw [pq_uf _ _ _ hf]
  exact (ho b hb).2.2 f
/-- what stays of the counted numbers of the cells that were there -/
def KC (X : List Nat) (σ : pq_S) (I I' : Nat → Nat → Int32) : Prop := ∀ f, f ∈ cfl → f ∉ X → ∀ b, b ∈ σ.1 → I' f b = I f b
theorem KC_x {X : List Nat} {σ σ1 : pq_S} {tg tg1 : Nat → Nat} {I I1 I2 r0 ri : Nat → Nat → Int32} {j0 rj : Nat → Nat → Int64} {rq : Nat → Nat → Option Nat} {τ : pq_S} {tt : Nat → Nat} (h1 : KC X σ I I1) (h2 : GX X tt τ I1 r0 j0 I2 ri rj rq) : KC X σ I I2 := fun f hf hx b hb => (congrFun (h2.2.1 f hf hx) b).trans (h1 f hf hx b hb)
/-- what stays of the rows that were there -/
def KR (X : List Nat) (σ : pq_S) (tg : Nat → Nat) (ri ri' : Nat → Nat → Int32) : Prop := ∀ t, t ∈ rtl → 1000 + t ∉ X → ∀ q, q ∈ σ.1 → tg q = t → ri' q = ri q
theorem KR_x {X : List Nat} {σ τ : pq_S} {tg tt : Nat → Nat} {I1 I2 ri r1 r2 : Nat → Nat → Int32} {j1 j2 : Nat → Nat → Int64} {rq : Nat → Nat → Option Nat} (h1 : KR X σ tg ri r1) (h2 : GX X tt τ I1 r1 j1 I2 r2 j2 rq) (ht : ∀ q, q ∈ σ.1 → tt q = tg q) : KR X σ tg ri r2 := fun t hm hx q hq hq2 => (h2.2.2.1 t hm hx q ((ht q hq).trans hq2)).trans (h1 t hm hx q hq hq2)

set_option maxHeartbeats 8000000 in
set_option maxRecDepth 100000 in
theorem s_X8_init (l : Launch) (D : va_G) (t : pq_T) (σ : pq_S) (I : Nat → Nat → Int32) (J : Nat → Nat → Int64) (ri : Nat → Nat → Int32) (rj : Nat → Nat → Int64) (rq : Nat → Nat → Option Nat) (sz : Nat) (this : Nat) (hL_this : this ∈ σ.1) (hK_this : σ.2.1 this = 8) : MetV l yX8_init (wa yX8_init cX8_init 1 none) ({ frames := 1, cells := 3, slots := 341, locals := 20 }) [.ref this] D t σ (I, J, ri, rj, rq) sz 3 341 (fun (u : pq_S × pq_M) => ∃ (q1 q2 q3 : Nat) (σa σb σ' : pq_S), u = (σ', I, J, zr3 ri q1 q2 q3, rj, rq) ∧ As 257 this q1 13 20 σ σa ∧ As 258 this q2 13 21 σa σb ∧ As 259 this q3 13 300 σb σ') := by
  refine Met.ofW (cc := cX8_init) (maxL := 1) (ret := none) (by decide +kernel) rfl ?_
  intro p e s m args below meth c s₁ B hml hv
  obtain ⟨rfl, hsz, hP, hK, hD0, hN⟩ := hv
  have hx := B.exec
  have hb := B.bytes
  have hr := B.returns
  have hts := atoms_spec (ws := (wa yX8_init cX8_init 1 none)) B.pre
  have hown : s.vm.findClass RX8 = some m.cls := findClass_of_methodNamed B.named
  have hlocks := B.notSynchronized
  have hin : meth.name = "<init>" := (name_of_methodNamed B.named B.method).1
  subst hsz
  have hD : va_D (pq_B t σ (I, J, ri, rj, rq) s.heap.size) (pq_P t σ (I, J, ri, rj, rq)) := hD0.self
  generalize hAe : pq_B t σ (I, J, ri, rj, rq) s.heap.size = A at hD ⊢
  have hA : ∀ q : Nat, s.heap.size ≤ q → A q := fun q h => by rw [← hAe]; exact Or.inr h
  have hS : va_S A s.heap s.heap [] := va_S.rf
  have hl := lv_entry ([.ref this]) (n := 1) (Nat.le_of_ble_eq_true rfl)
  rw [lg_entry_eq]
  generalize (lg_sl ([.ref this]) ++ List.replicate (1 - (lg_sl ([.ref this])).length) Slot.unset).toArray = ls at hl ⊢
  have hl : lv_has ls 1 [(0, .ref this)] := hl
  refine lv_aload_n hx hb dX8_init_0 rfl (lv_at hl 0 rfl) ?_
  refine W.objInit hx hb hown (hts _ (tw_c tw_168)) (hts _ (tw_c tw_11)) (hts _ (tw_c tw_12)) rfl (by rw [hml]; exact hl.1) rfl dX8_init_1 (Nat.le_of_ble_eq_true rfl) (Nat.le_of_ble_eq_true rfl) ?_
  refine W.eq (g2 := F0 m 4 ls []) rfl ?_
  refine lv_aload_n hx hb dX8_init_4 rfl (lv_at hl 0 rfl) ?_
  refine lv_bipush (v := 20) hx hb dX8_init_5 (by decide +kernel) ?_
  refine nw_i (N' := 20) hx hb (hts _ (tw_c tw_33)) hK hP hD hS hA (by decide +kernel) (by decide +kernel) (Nat.le_of_ble_eq_true rfl) (Nat.le_of_ble_eq_true rfl) (Nat.le_of_ble_eq_true rfl) dX8_init_7 (fun q_1 r_3 H hq_2 er_3 hP hD hS => ?_)
  refine pr_F (q := q_1) (C := RX8) (T := TX8) (N := 4) hx hb hts (tw_i inlX8) tyX8 tyX8_ok nmX8 hown hK hP hD hS (As_in hL_this) (As_kk hq_2 hL_this hK_this) (by decide +kernel) rfl 1 257 (by decide +kernel) (hts _ (tw_c tw_169)) rfl hin rfl (tyX8_ok 1 (by decide +kernel)) rfl rfl (Nat.le_of_ble_eq_true rfl) (pr_257 _ _ _ _ _) dX8_init_9 (fun σ_4 H locs hp_5 hP hD hS => ?_)
  have hs_6 := As_of hq_2 hp_5
  have hz_7 := As_es (I := I) hs_6
  have hK_this := Es_k hz_7 hL_this hK_this
  have hL_this := Es_at hz_7 hL_this
  refine lv_aload_n hx hb dX8_init_12 rfl (lv_at hl 0 rfl) ?_
  refine lv_bipush (v := 21) hx hb dX8_init_13 (by decide +kernel) ?_
  refine nw_i (N' := 21) hx hb (hts _ (tw_c tw_33)) hK hP hD hS hA (by decide +kernel) (by decide +kernel) (Nat.le_of_ble_eq_true rfl) (Nat.le_of_ble_eq_true rfl) (Nat.le_of_ble_eq_true rfl) dX8_init_15 (fun q_8 r_10 H hq_9 er_10 hP hD hS => ?_)
  refine pr_F (q := q_8) (C := RX8) (T := TX8) (N := 4) hx hb hts (tw_i inlX8) tyX8 tyX8_ok nmX8 hown hK hP hD hS (As_in hL_this) (As_kk hq_9 hL_this hK_this) (by decide +kernel) rfl 2 258 (by decide +kernel) (hts _ (tw_c tw_170)) rfl hin rfl (tyX8_ok 2 (by decide +kernel)) rfl rfl (Nat.le_of_ble_eq_true rfl) (pr_258 _ _ _ _ _) dX8_init_17 (fun σ_11 H locs hp_12 hP hD hS => ?_)
  have hs_13 := As_of hq_9 hp_12
  have hz_14 := As_es (I := I) hs_13
  have hK_this := Es_k hz_14 hL_this hK_this
  have hL_this := Es_at hz_14 hL_this
  refine lv_aload_n hx hb dX8_init_20 rfl (lv_at hl 0 rfl) ?_
  refine lv_sipush (v := 300) hx hb dX8_init_21 (by decide +kernel) ?_
  refine nw_i (N' := 300) hx hb (hts _ (tw_c tw_33)) hK hP hD hS hA (by decide +kernel) (by decide +kernel) (Nat.le_of_ble_eq_true rfl) (Nat.le_of_ble_eq_true rfl) (Nat.le_of_ble_eq_true rfl) dX8_init_24 (fun q_15 r_17 H hq_16 er_17 hP hD hS => ?_)
  refine pr_F (q := q_15) (C := RX8) (T := TX8) (N := 4) hx hb hts (tw_i inlX8) tyX8 tyX8_ok nmX8 hown hK hP hD hS (As_in hL_this) (As_kk hq_16 hL_this hK_this) (by decide +kernel) rfl 3 259 (by decide +kernel) (hts _ (tw_c tw_171)) rfl hin rfl (tyX8_ok 3 (by decide +kernel)) rfl rfl (Nat.le_of_ble_eq_true rfl) (pr_259 _ _ _ _ _) dX8_init_26 (fun σ_18 H locs hp_19 hP hD hS => ?_)
  have hs_20 := As_of hq_16 hp_19
  have hz_21 := As_es (I := I) hs_20
  have hK_this := Es_k hz_21 hL_this hK_this
  have hL_this := Es_at hz_21 hL_this
  exact W.vret hx hb hr (fun t1 ht hW => ⟨⟨(σ_18, I, J, r_17, rj, rq), rfl, ⟨q_1, q_8, q_15, σ_4, σ_11, σ_18, by rw [er_17, er_10, er_3]; rfl, hs_6, hs_13, hs_20⟩, by rw [ht]; exact hP, va_K.moved hW.alike hK, hD⟩, hS.F ht⟩) hS.2.2 dX8_init_29


set_option maxRecDepth 100000 in
def g_X4_read_rest_L42 (J : Nat → Int64) (rj : Nat → Nat → Int64) (rq : Nat → Nat → Option Nat) : Nat → (Int32) → (Nat → Int32) → (Nat → Nat → Int32) → vM
  | 0, x_985, I_986, ri_987 => (I_986, J, ri_987, rj, rq)
  | n_1038 + 1, x_985, I_986, ri_987 => (if (300 : Int32) < x_985 then (I_986, J, ri_987, rj, rq) else (ap1 (I_986 129) fun (y_1056 : Int32) => (if (y_1056) = (0 : Int32) then (ap1 (I_986 194) fun (y_1064 : Int32) => (if (y_1064) = (33 : Int32) then (I_986, J, ri_987, rj, rq) else (bnV (g_X4_readClause I_986 J ri_987 rj rq) fun (I_1074 : Nat → Int32) (_ : Nat → Int64) (ri_1075 : Nat → Nat → Int32) (_ : Nat → Nat → Int64) (_ : Nat → Nat → Option Nat) => (bnV (g_X6_advance I_1074 J ri_1075 rj rq) fun (I_1087 : Nat → Int32) (_ : Nat → Int64) (_ : Nat → Nat → Int32) (_ : Nat → Nat → Int64) (_ : Nat → Nat → Option Nat) => (ap1 (x_985 + Int32.ofInt 1) fun (x_1101 : Int32) => ((g_X4_read_rest_L42 J rj rq n_1038) x_1101 I_1087 ri_1075)))))) else (I_986, J, ri_987, rj, rq))))
set_option maxRecDepth 100000 in
theorem g_X4_read_rest_L42_e {J : Nat → Int64} {rj : Nat → Nat → Int64} {rq : Nat → Nat → Option Nat} {n_1038 : Nat} {x_985 : Int32} {I_986 : Nat → Int32} {ri_987 : Nat → Nat → Int32} : g_X4_read_rest_L42 J rj rq (n_1038 + 1) x_985 I_986 ri_987 = (if (300 : Int32) < x_985 then (I_986, J, ri_987, rj, rq) else (ap1 (I_986 129) fun (y_1056 : Int32) => (if (y_1056) = (0 : Int32) then (ap1 (I_986 194) fun (y_1064 : Int32) => (if (y_1064) = (33 : Int32) then (I_986, J, ri_987, rj, rq) else (bnV (g_X4_readClause I_986 J ri_987 rj rq) fun (I_1074 : Nat → Int32) (_ : Nat → Int64) (ri_1075 : Nat → Nat → Int32) (_ : Nat → Nat → Int64) (_ : Nat → Nat → Option Nat) => (bnV (g_X6_advance I_1074 J ri_1075 rj rq) fun (I_1087 : Nat → Int32) (_ : Nat → Int64) (_ : Nat → Nat → Int32) (_ : Nat → Nat → Int64) (_ : Nat → Nat → Option Nat) => (ap1 (x_985 + Int32.ofInt 1) fun (x_1101 : Int32) => ((g_X4_read_rest_L42 J rj rq n_1038) x_1101 I_1087 ri_1075)))))) else (I_986, J, ri_987, rj, rq)))) := rfl
set_option maxRecDepth 100000 in
def g_X4_read_rest (I : Nat → Int32) (J : Nat → Int64) (ri : Nat → Nat → Int32) (rj : Nat → Nat → Int64) (rq : Nat → Nat → Option Nat) : vM := (ap1 (va_up I 132 (0 : Int32)) fun (I_1 : Nat → Int32) => (bnV (g_X6_rewind I_1 J ri rj rq) fun (I_10 : Nat → Int32) (_ : Nat → Int64) (_ : Nat → Nat → Int32) (_ : Nat → Nat → Int64) (_ : Nat → Nat → Option Nat) => (bnV (g_X6_advance I_10 J ri rj rq) fun (I_23 : Nat → Int32) (_ : Nat → Int64) (_ : Nat → Nat → Int32) (_ : Nat → Nat → Int64) (_ : Nat → Nat → Option Nat) => (g_X4_read_rest_L42 J rj rq ((301 - ((0 : Int32)).toInt).toNat + 1) (0 : Int32) I_23 ri))))
set_option maxRecDepth 100000 in
theorem g_X4_read_rest_e {I : Nat → Int32} {J : Nat → Int64} {ri : Nat → Nat → Int32} {rj : Nat → Nat → Int64} {rq : Nat → Nat → Option Nat} : g_X4_read_rest I J ri rj rq = (ap1 (va_up I 132 (0 : Int32)) fun (I_1 : Nat → Int32) => (bnV (g_X6_rewind I_1 J ri rj rq) fun (I_10 : Nat → Int32) (_ : Nat → Int64) (_ : Nat → Nat → Int32) (_ : Nat → Nat → Int64) (_ : Nat → Nat → Option Nat) => (bnV (g_X6_advance I_10 J ri rj rq) fun (I_23 : Nat → Int32) (_ : Nat → Int64) (_ : Nat → Nat → Int32) (_ : Nat → Nat → Int64) (_ : Nat → Nat → Option Nat) => (g_X4_read_rest_L42 J rj rq ((301 - ((0 : Int32)).toInt).toNat + 1) (0 : Int32) I_23 ri)))) := rfl
set_option maxHeartbeats 4000000 in
set_option maxRecDepth 100000 in
theorem s_X4_read_rest {p : Program} {e : Env} {s : State} {m : MethodId} {args : Array Value} {below : List Frame} {meth : Method} {c : Code} {Q : State → Prop} {A : Nat → Prop} (l : Launch) (D : va_G) (t : pq_T) (σ : pq_S) (I : Nat → Nat → Int32) (J : Nat → Nat → Int64) (ri : Nat → Nat → Int32) (rj : Nat → Nat → Int64) (rq : Nat → Nat → Option Nat) (aK aV : Nat) (vF : Value) (tg : Nat → Nat) (hSH : SH σ tg) (hG0 : GS tg σ I ri rq) (this : Nat) (hL_this : this ∈ σ.1) (hK_this : σ.2.1 this = 4) (this_scanner : Nat) (hR_this_scanner : σ.2.2.1 128 this = some this_scanner) (hL_this_scanner : this_scanner ∈ σ.1) (hK_this_scanner : σ.2.1 this_scanner = 6) (this_draft : Nat) (hR_this_draft : σ.2.2.1 131 this = some this_draft) (hL_this_draft : this_draft ∈ σ.1) (hK_this_draft : σ.2.1 this_draft = 8) (this_draft_from : Nat) (hR_this_draft_from : σ.2.2.1 258 this_draft = some this_draft_from) (hL_this_draft_from : this_draft_from ∈ σ.1) (hK_this_draft_from : σ.2.1 this_draft_from = 13) (hN_this_draft_from : σ.2.2.2 this_draft_from = 21) (hT_this_draft_from : tg this_draft_from = 258) (hfi : FI σ) (hcl0 : I 256 this_draft = 0) (hrow0 : ri this_draft_from (0 : Int32).toNatClampNeg = 0) (hx : p.tables.exec = Jvm.exec) (hb : c.code = cX4_read) (hml : c.maxLocals = 2) (hts : ∀ w ∈ (wa yX4_read cX4_read 2 (some (.object "RingsUnder$Text"))), w.before args s = true) (hown : s.vm.findClass RX4 = some m.cls) (hK : va_K D vwCl (pq_ty t) s) (hN : pq_N s) (hW0 : pq_W aK aV vF A s s.heap) (hA : ∀ q, s.heap.size ≤ q → A q) (H : Heap) (locs : List Loc) (ls : Array Slot) (hP : va_P D vwCl (pq_P t σ (I, J, ri, rj, rq)) H) (hD : va_D A (pq_P t σ (I, J, ri, rj, rq))) (hS : va_S A s.heap H locs) (hl : lv_has ls 2 [(0, .ref this)]) (kr : ∀ (I' : Nat → Nat → Int32) (ri' : Nat → Nat → Int32) (H : Heap) (locs : List Loc) (ls : Array Slot), GX [197, 194, 129, 132, 134, 256] tg σ I ri rj I' ri' rj rq → g_X4_read_rest (vI 4 σ this I) (vJ 4 σ this J) (vR 4 σ this ri) (vL 4 σ this rj) (vQ 4 σ this rq) = ((vI 4 σ this I'), (vJ 4 σ this J), (vR 4 σ this ri'), (vL 4 σ this rj), (vQ 4 σ this rq)) → va_P D vwCl (pq_P t σ (I', J, ri', rj, rq)) H → va_D A (pq_P t σ (I', J, ri', rj, rq)) → va_S A s.heap H locs → ls.size = 2 → W p l e ({ frames := 9, cells := 4, slots := 345, locals := 194 } : Room) s m args below meth c H locs 4 345 Q (F0 m 89 ls [.ref this_draft])) : W p l e ({ frames := 9, cells := 4, slots := 345, locals := 194 } : Room) s m args below meth c H locs 4 345 Q (F0 m 21 ls []) := by
  have hG : GX [197, 194, 129, 132, 134, 256] tg σ I ri rj I ri rj rq := ⟨hG0, fun _ _ _ => rfl, fun _ _ _ _ _ => rfl, fun _ _ _ _ _ => rfl⟩
  have hO_this : this = vo σ 4 this := rfl
  have hVT : VT 4 σ tg this := vt_4 hSH hL_this hK_this
  have hFr : FR 4 tg σ this (I, J, ri, rj, rq) (I, J, ri, rj, rq) := fr_rf
  have hO_this_scanner : this_scanner = vo σ 6 this := vo_k (c := 4) hO_this hR_this_scanner
  have hO_this_draft : this_draft = vo σ 8 this := vo_k (c := 4) hO_this hR_this_draft
  have hO_this_draft_from : this_draft_from = vrow σ 258 this := vo_k (c := 8) hO_this_draft hR_this_draft_from
  obtain ⟨F, hF0⟩ : ∃ F, F = g_X4_read_rest (vI 4 σ this I) (vJ 4 σ this J) (vR 4 σ this ri) (vL 4 σ this rj) (vQ 4 σ this rq) := ⟨_, rfl⟩
  have hF := hF0.trans g_X4_read_rest_e
  refine lv_aload_n hx hb dX4_read_21 rfl (lv_at hl 0 rfl) ?_
  refine lv_iconst (v := 0) hx hb dX4_read_22 (by decide +kernel) ?_
  refine pp_i (v := 0) (ty := .int) (C := RX4) (T := TX4) (N := 12) hx hb hts (tw_i inlX4) tyX4 tyX4_ok nmX4 hown hK hP hD hS hL_this hK_this (by decide +kernel) rfl 4 132 (by decide +kernel) (hts _ (tw_c tw_656)) rfl (tyX4_ok 4 (by decide +kernel)) rfl rfl (Nat.le_of_ble_eq_true rfl) (ps_132 _ _ _ _ _) dX4_read_23 (fun I_1 H locs eI_1 hP hD hS => ?_)
  replace hFr := fr_I (f := 132) hFr hO_this (by decide +kernel) eI_1
  replace hF := hF.trans (ap_n (vI_st (f := 132) hO_this (by decide +kernel) eI_1))
  have hG := GX.wI hG 132 rfl eI_1 (rg_w (rg_k (0 : Int32) 0 rfl) (by decide +kernel)) (by decide +kernel)
  have tt_2 : (I_1 132 this).toInt = 0 := by rw [eI_1, pq_us]; rfl
  have tt_3 : (I_1 134 this).toInt = (I 134 this).toInt := by rw [eI_1, pq_uf _ _ _ (by decide +kernel)]
  have tt_4 : (I_1 129 this).toInt = (I 129 this).toInt := by rw [eI_1, pq_uf _ _ _ (by decide +kernel)]
  have tt_5 : (I_1 197 this_scanner).toInt = (I 197 this_scanner).toInt := by rw [eI_1, pq_uf _ _ _ (by decide +kernel)]
  have tt_6 : (I_1 194 this_scanner).toInt = (I 194 this_scanner).toInt := by rw [eI_1, pq_uf _ _ _ (by decide +kernel)]
  have tt_7 : (I_1 256 this_draft).toInt = (I 256 this_draft).toInt := by rw [eI_1, pq_uf _ _ _ (by decide +kernel)]
  have hrf : (ri this_draft_from (I_1 256 this_draft).toNatClampNeg).toInt = (I_1 132 this).toInt := by rw [show I_1 256 this_draft = I 256 this_draft from ((congrFun (show I_1 256 = I 256 from by rw [eI_1]; exact pq_uf _ _ _ (by decide +kernel)) this_draft).trans rfl), hcl0, hrow0]; have z0 : (0 : Int32).toInt = 0 := rfl; omega
  refine lv_aload_n hx hb dX4_read_26 rfl (lv_at hl 0 rfl) ?_
  refine pg_f (v := .ref this_scanner) (C := RX4) (T := TX4) (N := 12) hx hb hts (tw_i inlX4) hown hK hP hL_this hK_this (by decide +kernel) rfl 0 (by decide +kernel) (hts _ (tw_c tw_154)) (pq_hv rfl hR_this_scanner) dX4_read_27 ?_
  refine pk_v (va_runV (As := []) (rest := []) ⟨hx, hb, hml, hown, hts⟩ (s_X6_rewind l D t σ I_1 J ri rj rq H.size tg hSH hG.1 this_scanner hL_this_scanner hK_this_scanner this hL_this hK_this hO_this_scanner) (cwV 0 hts (tw_V tw_658 tw_659 tw_660 tw_153 tw_661) rfl rfl rfl cv_yX6_rewind_0 ⟨Nat.le_of_ble_eq_true rfl, Nat.le_of_ble_eq_true rfl⟩) ⟨pq_blind, pq_recv hK hP hL_this_scanner hK_this_scanner (by decide +kernel) rfl, pq_pre hK hN hP hD⟩ rfl rfl hl.1 rfl (lv_room (Nat.le_of_ble_eq_true rfl)) dX4_read_30 ⟨Nat.le_of_ble_eq_true rfl, Nat.le_of_ble_eq_true rfl⟩) hD hS hA (fun σ1 μ1 H locs hw_9 hP hD hS => ?_)
  obtain ⟨I_10, hu_11, hg_12, hfn_14, hfr_15⟩ := hw_9
  obtain ⟨hu_11a, hu_11b⟩ := Prod.mk.inj hu_11
  rw [hu_11a, hu_11b] at hP hD
  replace hF := hF.trans (bv_n hfn_14)
  replace hFr := fr_tr hFr hfr_15
  have hG := GX.tr hG hg_12 (by decide +kernel)
  have tt_16 : (I_10 132 this).toInt = (I_1 132 this).toInt := by rw [hg_12.2.1 132 (by decide +kernel) (by decide +kernel)]
  have tt_17 : (I_10 134 this).toInt = (I_1 134 this).toInt := by rw [hg_12.2.1 134 (by decide +kernel) (by decide +kernel)]
  have tt_18 : (I_10 129 this).toInt = (I_1 129 this).toInt := by rw [hg_12.2.1 129 (by decide +kernel) (by decide +kernel)]
  have tt_19 : (I_10 194 this_scanner).toInt = (I_1 194 this_scanner).toInt := by rw [hg_12.2.1 194 (by decide +kernel) (by decide +kernel)]
  have tt_20 : (I_10 256 this_draft).toInt = (I_1 256 this_draft).toInt := by rw [hg_12.2.1 256 (by decide +kernel) (by decide +kernel)]
  refine lv_aload_n hx hb dX4_read_33 rfl (lv_at hl 0 rfl) ?_
  refine pg_f (v := .ref this_scanner) (C := RX4) (T := TX4) (N := 12) hx hb hts (tw_i inlX4) hown hK hP hL_this hK_this (by decide +kernel) rfl 0 (by decide +kernel) (hts _ (tw_c tw_154)) (pq_hv rfl hR_this_scanner) dX4_read_34 ?_
  have har := (GX.rI hG 197 (a := this_scanner) (lo := 0) (hi := 300) rfl).1
  refine pk_v (va_runV (As := []) (rest := []) ⟨hx, hb, hml, hown, hts⟩ (s_X6_advance l D t σ I_10 J ri rj rq H.size aK aV vF tg hSH hG.1 this_scanner hL_this_scanner hK_this_scanner this hL_this hK_this hO_this_scanner) (cwV 0 hts (tw_V tw_663 tw_664 tw_665 tw_153 tw_666) rfl rfl rfl cv_yX6_advance_0 ⟨Nat.le_of_ble_eq_true rfl, Nat.le_of_ble_eq_true rfl⟩) ⟨pq_blindS, pq_recv hK hP hL_this_scanner hK_this_scanner (by decide +kernel) rfl, pq_preS hK hN hP hD hS hA hW0⟩ rfl rfl hl.1 rfl (lv_room (Nat.le_of_ble_eq_true rfl)) dX4_read_37 ⟨Nat.le_of_ble_eq_true rfl, Nat.le_of_ble_eq_true rfl⟩) hD hS hA (fun σ1 μ1 H locs hw_22 hP hD hS => ?_)
  obtain ⟨I_23, hu_24, hg_25, hp_27, hp_28, hfn_29, hfr_30⟩ := hw_22
  obtain ⟨hu_24a, hu_24b⟩ := Prod.mk.inj hu_24
  rw [hu_24a, hu_24b] at hP hD
  replace hF := hF.trans (bv_n hfn_29)
  replace hFr := fr_tr hFr hfr_30
  have tt_31 := hp_27
  have tt_32 := hp_28
  have hG := GX.tr hG hg_25 (by decide +kernel)
  have tt_33 : (I_23 132 this).toInt = (I_10 132 this).toInt := by rw [hg_25.2.1 132 (by decide +kernel) (by decide +kernel)]
  have tt_34 : (I_23 134 this).toInt = (I_10 134 this).toInt := by rw [hg_25.2.1 134 (by decide +kernel) (by decide +kernel)]
  have tt_35 : (I_23 129 this).toInt = (I_10 129 this).toInt := by rw [hg_25.2.1 129 (by decide +kernel) (by decide +kernel)]
  have tt_36 : (I_23 256 this_draft).toInt = (I_10 256 this_draft).toInt := by rw [hg_25.2.1 256 (by decide +kernel) (by decide +kernel)]
  refine lv_iconst (v := 0) hx hb dX4_read_40 (by decide +kernel) ?_
  refine lv_istore_n (lv' := [(1, .int 0), (0, .ref this)]) hx hb dX4_read_41 rfl hl (by decide +kernel) rfl (fun ls hl => ?_)
  have L_1039 : ∀ (n_1038 : Nat) (x_985 : Int32) (I_986 : Nat → Nat → Int32) (ri_987 : Nat → Nat → Int32) (H : Heap) (locs : List Loc) (ls : Array Slot), rg x_985 0 301 → (((I_986 129 this).toInt = 0 → (I_986 194 this_scanner).toInt = 33 ∨ (I_986 132 this).toInt + 1 ≤ (I_986 197 this_scanner).toInt)) → ((ri_987 this_draft_from (I_986 256 this_draft).toNatClampNeg).toInt = (I_986 132 this).toInt) → (301 - (x_985).toInt).toNat < n_1038 → F = g_X4_read_rest_L42 (vJ 4 σ this J) (vL 4 σ this rj) (vQ 4 σ this rq) n_1038 x_985 (vI 4 σ this I_986) (vR 4 σ this ri_987) → FR 4 tg σ this (I, J, ri, rj, rq) (I_986, J, ri_987, rj, rq) → GX [197, 194, 129, 132, 134, 256] tg σ I ri rj I_986 ri_987 rj rq → va_P D vwCl (pq_P t σ (I_986, J, ri_987, rj, rq)) H → va_D A (pq_P t σ (I_986, J, ri_987, rj, rq)) → va_S A s.heap H locs → lv_has ls 2 [(0, .ref this), (1, .int x_985)] → W p l e ({ frames := 9, cells := 4, slots := 345, locals := 194 } : Room) s m args below meth c H locs 4 345 Q (F0 m 42 ls []) := by
    intro n_1038
    induction n_1038 with
    | zero => intro x_985 I_986 ri_987 H locs ls h_1044 hrel_1045 hrel_1046 hm_1037 hF hFr hG hP hD hS hl; exact absurd hm_1037 (Nat.not_lt_zero _)
    | succ n_1038 ih_1040 =>
      intro x_985 I_986 ri_987 H locs ls h_1044 hrel_1045 hrel_1046 hm_1037 hF hFr hG hP hD hS hl
      have uh_1044 := h_1044.1
      have vh_1044 := h_1044.2
      replace hF := hF.trans g_X4_read_rest_L42_e
      refine lv_iload_n hx hb dX4_read_42 rfl (lv_at hl 1 rfl) ?_
      refine lv_sipush (v := 300) hx hb dX4_read_43 (by decide +kernel) ?_
      refine lv_icmp_gt (tgt := 85) hx hb dX4_read_46 (by decide +kernel) (fun c_1047 => ?_) (fun c_1047 => ?_)
      · replace hF := hF.trans (if_pos c_1047)
        have tc_1052 : 300 < (x_985).toInt := Int32.lt_iff_toInt_lt.mp c_1047
        have h_1053 : rg x_985 301 301 := rg_lt2 c_1047 (rg_k (300 : Int32) 300 rfl) h_1044 (by decide +kernel)
        have uh_1053 := h_1053.1
        have vh_1053 := h_1053.2
        refine lv_aload_n hx hb dX4_read_85 rfl (lv_at hl 0 rfl) ?_
        refine pg_f (v := .ref this_draft) (C := RX4) (T := TX4) (N := 12) hx hb hts (tw_i inlX4) hown hK hP hL_this hK_this (by decide +kernel) rfl 3 (by decide +kernel) (hts _ (tw_c tw_160)) (pq_hv rfl hR_this_draft) dX4_read_86 ?_
        exact kr I_986 ri_987 H locs ls hG (hF0.symm.trans hF) hP hD hS hl.1
      · replace hF := hF.trans (if_neg c_1047)
        have tc_1054 : (x_985).toInt ≤ 300 := Int32.le_iff_toInt_le.mp (nlt c_1047)
        have h_1055 : rg x_985 0 300 := rg_le1 (nlt c_1047) h_1044 (rg_k (300 : Int32) 300 rfl) (by decide +kernel)
        have uh_1055 := h_1055.1
        have vh_1055 := h_1055.2
        refine lv_aload_n hx hb dX4_read_49 rfl (lv_at hl 0 rfl) ?_
        refine pg_f (v := .int (I_986 129 this)) (C := RX4) (T := TX4) (N := 12) hx hb hts (tw_i inlX4) hown hK hP hL_this hK_this (by decide +kernel) rfl 1 (by decide +kernel) (hts _ (tw_c tw_155)) rfl dX4_read_50 ?_
        replace hF := hF.trans (ap_n (vI_e (f := 129) hO_this (by decide +kernel)))
        refine lv_if_ne (tgt := 85) hx hb dX4_read_53 (by decide +kernel) (fun c_1057 => ?_) (fun c_1057 => ?_)
        · replace hF := hF.trans (if_neg c_1057)
          have tc_1061 : (I_986 129 this).toInt ≠ 0 := fun q => c_1057 (Int32.toInt_inj.mp q)
          refine lv_aload_n hx hb dX4_read_85 rfl (lv_at hl 0 rfl) ?_
          refine pg_f (v := .ref this_draft) (C := RX4) (T := TX4) (N := 12) hx hb hts (tw_i inlX4) hown hK hP hL_this hK_this (by decide +kernel) rfl 3 (by decide +kernel) (hts _ (tw_c tw_160)) (pq_hv rfl hR_this_draft) dX4_read_86 ?_
          exact kr I_986 ri_987 H locs ls hG (hF0.symm.trans hF) hP hD hS hl.1
        · replace hF := hF.trans (if_pos c_1057)
          have tc_1062 : (I_986 129 this).toInt = 0 := congrArg Int32.toInt c_1057
          have h_1063 : rg (I_986 129 this) 0 0 := rg_and (rg_full _) (rg_of_eq c_1057 (rg_k (0 : Int32) 0 rfl)) (by decide +kernel)
          have uh_1063 := h_1063.1
          have vh_1063 := h_1063.2
          refine lv_aload_n hx hb dX4_read_56 rfl (lv_at hl 0 rfl) ?_
          refine pg_f (v := .ref this_scanner) (C := RX4) (T := TX4) (N := 12) hx hb hts (tw_i inlX4) hown hK hP hL_this hK_this (by decide +kernel) rfl 0 (by decide +kernel) (hts _ (tw_c tw_154)) (pq_hv rfl hR_this_scanner) dX4_read_57 ?_
          refine pg_f (v := .int (I_986 194 this_scanner)) (C := RX6) (T := TX6) (N := 6) hx hb hts (tw_i inlX6) hown hK hP hL_this_scanner hK_this_scanner (by decide +kernel) rfl 2 (by decide +kernel) (hts _ (tw_c tw_657)) rfl dX4_read_60 ?_
          replace hF := hF.trans (ap_n (vI_e (f := 194) hO_this_scanner (by decide +kernel)))
          refine lv_bipush (v := 33) hx hb dX4_read_63 (by decide +kernel) ?_
          refine lv_icmp_eq (tgt := 85) hx hb dX4_read_65 (by decide +kernel) (fun c_1065 => ?_) (fun c_1065 => ?_)
          · replace hF := hF.trans (if_pos c_1065)
            have tc_1069 : (I_986 194 this_scanner).toInt = 33 := congrArg Int32.toInt c_1065
            have h_1070 : rg (I_986 194 this_scanner) 33 33 := rg_and (rg_full _) (rg_of_eq c_1065 (rg_k (33 : Int32) 33 rfl)) (by decide +kernel)
            have uh_1070 := h_1070.1
            have vh_1070 := h_1070.2
            refine lv_aload_n hx hb dX4_read_85 rfl (lv_at hl 0 rfl) ?_
            refine pg_f (v := .ref this_draft) (C := RX4) (T := TX4) (N := 12) hx hb hts (tw_i inlX4) hown hK hP hL_this hK_this (by decide +kernel) rfl 3 (by decide +kernel) (hts _ (tw_c tw_160)) (pq_hv rfl hR_this_draft) dX4_read_86 ?_
            exact kr I_986 ri_987 H locs ls hG (hF0.symm.trans hF) hP hD hS hl.1
          · replace hF := hF.trans (if_neg c_1065)
            have tc_1071 : (I_986 194 this_scanner).toInt ≠ 33 := fun q => c_1065 (Int32.toInt_inj.mp q)
            refine lv_aload_n hx hb dX4_read_68 rfl (lv_at hl 0 rfl) ?_
            have hat := (GX.rI hG 197 (a := this_scanner) (lo := 0) (hi := 300) rfl).2
            refine pk_v (va_runV (As := []) (rest := []) ⟨hx, hb, hml, hown, hts⟩ (s_X4_readClause l D t σ I_986 J ri_987 rj rq H.size aK aV vF tg hSH hG.1 this hL_this hK_this this_scanner hR_this_scanner hL_this_scanner hK_this_scanner this_draft hR_this_draft hL_this_draft hK_this_draft this_draft_from hR_this_draft_from hL_this_draft_from hK_this_draft_from hN_this_draft_from hT_this_draft_from (by assumption) (by first | assumption | omega) (by omega) (by omega)) (cwV 0 hts (tw_V tw_741 tw_742 tw_743 tw_25 tw_744) rfl rfl rfl cv_yX4_readClause_0 ⟨Nat.le_of_ble_eq_true rfl, Nat.le_of_ble_eq_true rfl⟩) ⟨pq_blindS, pq_recv hK hP hL_this hK_this (by decide +kernel) rfl, pq_preS hK hN hP hD hS hA hW0⟩ rfl rfl hl.1 rfl (lv_room (Nat.le_of_ble_eq_true rfl)) dX4_read_69 ⟨Nat.le_of_ble_eq_true rfl, Nat.le_of_ble_eq_true rfl⟩) hD hS hA (fun σ1 μ1 H locs hw_1073 hP hD hS => ?_)
            obtain ⟨I_1074, ri_1075, hu_1076, hg_1077, hp_1079, hp_1080, hfn_1081, hfr_1082⟩ := hw_1073
            obtain ⟨hu_1076a, hu_1076b⟩ := Prod.mk.inj hu_1076
            rw [hu_1076a, hu_1076b] at hP hD
            replace hF := hF.trans (bv_n hfn_1081)
            replace hFr := fr_tr hFr hfr_1082
            have tt_1083 := hp_1079
            have tt_1084 := hp_1080
            have hG := GX.tr hG hg_1077 (by decide +kernel)
            refine lv_aload_n hx hb dX4_read_72 rfl (lv_at hl 0 rfl) ?_
            refine pg_f (v := .ref this_scanner) (C := RX4) (T := TX4) (N := 12) hx hb hts (tw_i inlX4) hown hK hP hL_this hK_this (by decide +kernel) rfl 0 (by decide +kernel) (hts _ (tw_c tw_154)) (pq_hv rfl hR_this_scanner) dX4_read_73 ?_
            refine pk_v (va_runV (As := []) (rest := []) ⟨hx, hb, hml, hown, hts⟩ (s_X6_advance l D t σ I_1074 J ri_1075 rj rq H.size aK aV vF tg hSH hG.1 this_scanner hL_this_scanner hK_this_scanner this hL_this hK_this hO_this_scanner) (cwV 0 hts (tw_V tw_663 tw_664 tw_665 tw_153 tw_666) rfl rfl rfl cv_yX6_advance_0 ⟨Nat.le_of_ble_eq_true rfl, Nat.le_of_ble_eq_true rfl⟩) ⟨pq_blindS, pq_recv hK hP hL_this_scanner hK_this_scanner (by decide +kernel) rfl, pq_preS hK hN hP hD hS hA hW0⟩ rfl rfl hl.1 rfl (lv_room (Nat.le_of_ble_eq_true rfl)) dX4_read_76 ⟨Nat.le_of_ble_eq_true rfl, Nat.le_of_ble_eq_true rfl⟩) hD hS hA (fun σ1 μ1 H locs hw_1086 hP hD hS => ?_)
            obtain ⟨I_1087, hu_1088, hg_1089, hp_1091, hp_1092, hfn_1093, hfr_1094⟩ := hw_1086
            obtain ⟨hu_1088a, hu_1088b⟩ := Prod.mk.inj hu_1088
            rw [hu_1088a, hu_1088b] at hP hD
            replace hF := hF.trans (bv_n hfn_1093)
            replace hFr := fr_tr hFr hfr_1094
            have tt_1095 := hp_1091
            have tt_1096 := hp_1092
            have hG := GX.tr hG hg_1089 (by decide +kernel)
            have tt_1097 : (I_1087 132 this).toInt = (I_1074 132 this).toInt := by rw [hg_1089.2.1 132 (by decide +kernel) (by decide +kernel)]
            have tt_1098 : (I_1087 134 this).toInt = (I_1074 134 this).toInt := by rw [hg_1089.2.1 134 (by decide +kernel) (by decide +kernel)]
            have tt_1099 : (I_1087 129 this).toInt = (I_1074 129 this).toInt := by rw [hg_1089.2.1 129 (by decide +kernel) (by decide +kernel)]
            have tt_1100 : (I_1087 256 this_draft).toInt = (I_1074 256 this_draft).toInt := by rw [hg_1089.2.1 256 (by decide +kernel) (by decide +kernel)]
            obtain ⟨x_1101, ex_1101⟩ : ∃ y : Int32, y = x_985 + Int32.ofInt 1 := ⟨_, rfl⟩
            replace hF := hF.trans (ap_n ex_1101)
            have h_1102 : rg x_1101 1 301 := rg_of_eq ex_1101 (rg_add h_1055 (rg_k (Int32.ofInt 1) 1 rfl) (by decide +kernel))
            have uh_1102 := h_1102.1
            have vh_1102 := h_1102.2
            have tx_1101 : (x_1101).toInt = (x_985).toInt + 1 := by rw [ex_1101]; exact i_add_rg (a2 := (x_985).toInt) (b2 := 1) rfl rfl h_1055 (rg_k (Int32.ofInt 1) 1 rfl) (by decide +kernel)
            refine lv_iinc (v := x_1101) (lv' := [(1, .int x_1101), (0, .ref this)]) hx hb dX4_read_79 hl (k := 1) rfl ex_1101.symm (by decide +kernel) rfl (fun ls hl => ?_)
            refine lv_goto (tgt := 42) hx hb dX4_read_82 (by decide +kernel) ?_
            exact ih_1040 x_1101 I_1087 ri_1075 _ _ _ (rg_w h_1102 (by decide +kernel)) (by omega) (by rw [show I_1087 256 this_draft = I_1074 256 this_draft from ((congrFun (hg_1089.2.1 256 (by decide +kernel) (by decide +kernel)) this_draft).trans rfl), show I_1087 132 this = I_1074 132 this from ((congrFun (hg_1089.2.1 132 (by decide +kernel) (by decide +kernel)) this).trans rfl)]; exact hp_1079) (ms_up 1 hm_1037 ex_1101 rfl (by decide +kernel) h_1055 (by decide +kernel) (by decide +kernel)) hF hFr hG hP hD hS (lv_sub hl [1, 0] rfl)
  exact L_1039 _ (0 : Int32) I_23 ri _ _ _ (rg_w (rg_k (0 : Int32) 0 rfl) (by decide +kernel)) (by have k0 : (0 : Int32).toInt = 0 := rfl; omega) (by rw [show I_23 256 this_draft = I_1 256 this_draft from ((congrFun (hg_25.2.1 256 (by decide +kernel) (by decide +kernel)) this_draft).trans ((congrFun (hg_12.2.1 256 (by decide +kernel) (by decide +kernel)) this_draft).trans rfl)), show I_23 132 this = I_1 132 this from ((congrFun (hg_25.2.1 132 (by decide +kernel) (by decide +kernel)) this).trans ((congrFun (hg_12.2.1 132 (by decide +kernel) (by decide +kernel)) this).trans rfl))]; exact hrf) (Nat.lt_succ_self _) hF hFr hG hP hD hS (lv_sub hl [1, 0] rfl)

/-- what reading the tape as a TEXT comes to: the function of the rest of read(), from a fresh start on -/
def RDE (σ σ' : pq_S) (rd : Nat) (I ri I1 : Nat → Nat → Int32) (J1 : Nat → Nat → Int64) (r1 : Nat → Nat → Int32) (rj : Nat → Nat → Int64) (rq : Nat → Nat → Option Nat) : Prop := ∃ (I0 : Nat → Int32) (J0 : Nat → Int64) (r0 : Nat → Nat → Int32) (l0 : Nat → Nat → Int64) (q0 : Nat → Nat → Option Nat), I0 129 = 0 ∧ I0 130 = -1 ∧ I0 256 = 0 ∧ I0 193 = vI 4 σ rd I 193 ∧ r0 192 = vR 4 σ rd ri 192 ∧ g_X4_read_rest I0 J0 r0 l0 q0 = (vI 4 σ' rd I1, vJ 4 σ' rd J1, vR 4 σ' rd r1, vL 4 σ' rd rj, vQ 4 σ' rd rq)
theorem kd_e0 {σ σ1 : pq_S} {tg tg1 : Nat → Nat} (h : EX σ σ1 tg tg1) {f a : Nat} (ha : a ∈ σ.1) (hf : f ≠ 131) : kd σ1 f a = kd σ f a := by
  unfold kd
  rw [(h a ha).2.2.2.2 f hf]
theorem rde_of {σ sd : pq_S} {tg tg2 : Nat → Nat} {this q0 q1 q2 q3 : Nat} {I ri I1 I2 I5 I6 r6 : Nat → Nat → Int32} {J : Nat → Nat → Int64} {rj : Nat → Nat → Int64} {rq : Nat → Nat → Option Nat} (hSH : SH σ tg) (hL : this ∈ σ.1) (hK : σ.2.1 this = 4) (hEX : EX σ sd tg tg2) (h0 : q0 ∉ σ.1) (n1 : q1 ∉ σ.1) (n2 : q2 ∉ σ.1) (n3 : q3 ∉ σ.1) (hd : sd.2.2.1 131 this = some q0) (e1 : I1 = pq_u I 129 this 0) (e2 : I2 = pq_u I1 130 this (-1)) (e5 : I5 = pq_I0 I2 q0) (hF : g_X4_read_rest (vI 4 sd this I5) (vJ 4 sd this J) (vR 4 sd this (zr3 ri q1 q2 q3)) (vL 4 sd this rj) (vQ 4 sd this rq) = (vI 4 sd this I6, vJ 4 sd this J, vR 4 sd this r6, vL 4 sd this rj, vQ 4 sd this rq)) : RDE σ sd this I ri I6 J r6 rj rq := by
  have hs := vo_in (f := 128) (ci := 4) (k := 6) hSH rfl hL hK
  have v6 : vo sd 6 this = vo σ 6 this := kd_e0 hEX hL (by decide +kernel)
  have v8 : vo sd 8 this = q0 := (kd_e hd).symm
  have t0 : this ≠ q0 := fun z => h0 (z ▸ hL)
  have s0 : vo σ 6 this ≠ q0 := fun z => h0 (z ▸ hs.1)
  have hrow : vrow σ 192 this ∈ σ.1 := ((vt_4 hSH hL hK).2.2 192 (by decide +kernel)).2.1
  have vr : vrow sd 192 this = vrow σ 192 this := by
    show kd sd 192 (vo sd 6 this) = kd σ 192 (vo σ 6 this)
    rw [v6]
    exact kd_e0 hEX hs.1 (by decide +kernel)
  have a129 : vI 4 sd this I5 129 = 0 := by
    show (if vcl 4 (129 / 32) = true then I5 129 (vo sd (129 / 32) this) else 0) = 0
    rw [if_pos (by decide +kernel)]
    show I5 129 this = 0
    rw [e5]
    show va_up (I2 129) q0 0 this = 0
    rw [va_up_ne _ _ t0, e2, pq_uf _ _ _ (show (129 : Nat) ≠ 130 by decide +kernel), e1, pq_us]
  have a130 : vI 4 sd this I5 130 = -1 := by
    show (if vcl 4 (130 / 32) = true then I5 130 (vo sd (130 / 32) this) else 0) = -1
    rw [if_pos (by decide +kernel)]
    show I5 130 this = -1
    rw [e5]
    show va_up (I2 130) q0 0 this = -1
    rw [va_up_ne _ _ t0, e2, pq_us]
  have a256 : vI 4 sd this I5 256 = 0 := by
    show (if vcl 4 (256 / 32) = true then I5 256 (vo sd (256 / 32) this) else 0) = 0
    rw [if_pos (by decide +kernel)]
    show I5 256 (vo sd 8 this) = 0
    rw [v8, e5]
    exact va_up_self _ _ _
  have a193 : vI 4 sd this I5 193 = vI 4 σ this I 193 := by
    show (if vcl 4 (193 / 32) = true then I5 193 (vo sd (193 / 32) this) else 0) = (if vcl 4 (193 / 32) = true then I 193 (vo σ (193 / 32) this) else 0)
    rw [if_pos (by decide +kernel), if_pos (by decide +kernel)]
    show I5 193 (vo sd 6 this) = I 193 (vo σ 6 this)
    rw [v6, e5]
    show va_up (I2 193) q0 0 (vo σ 6 this) = _
    rw [va_up_ne _ _ s0, e2, pq_uf _ _ _ (show (193 : Nat) ≠ 130 by decide +kernel), e1, pq_uf _ _ _ (show (193 : Nat) ≠ 129 by decide +kernel)]
  have a192 : vR 4 sd this (zr3 ri q1 q2 q3) 192 = vR 4 σ this ri 192 := by
    show (if vok 4 192 = true then zr3 ri q1 q2 q3 (vrow sd 192 this) else fun _ => 0) = (if vok 4 192 = true then ri (vrow σ 192 this) else fun _ => 0)
    rw [if_pos (by decide +kernel), if_pos (by decide +kernel), vr]
    exact zr3_o (fun z => n1 (z ▸ hrow)) (fun z => n2 (z ▸ hrow)) (fun z => n3 (z ▸ hrow))
  exact ⟨_, _, _, _, _, a129, a130, a256, a193, a192, hF⟩
theorem i_cn (a b : Int32) : a + b - b = a := by
  first
    | exact Int32.add_sub_cancel a b
    | (apply Int32.toBitVec_inj.mp; simp)
/-- what the rest of text() leaves -/
def TXE (σ : pq_S) (this a0 : Nat) (I : Nat → Nat → Int32) (r : Int32) (I1 : Nat → Nat → Int32) : Prop := ∃ rd sc : Nat, σ.2.2.1 356 this = some rd ∧ σ.2.2.1 128 rd = some sc ∧ ((I 129 rd = 0 ∧ r = I 96 a0 ∧ I1 = pq_u (pq_u I 193 sc 0) 96 a0 (I 96 a0 + 1)) ∨ (I 129 rd ≠ 0 ∧ r = -1 ∧ I1 = pq_u I 193 sc 0))
/-- what text() answers and leaves -/
def TXF (σ σ1 : pq_S) (this : Nat) (I ri : Nat → Nat → Int32) (r : Int32) (I1 : Nat → Nat → Int32) (J1 : Nat → Nat → Int64) (r1 : Nat → Nat → Int32) (rj : Nat → Nat → Int64) (rq : Nat → Nat → Option Nat) : Prop := ∃ nw lw rd sc : Nat, (σ.2.2.1 352 this = some nw ∧ σ.2.2.1 329 nw = some lw ∧ σ.2.2.1 356 this = some rd ∧ σ.2.2.1 128 rd = some sc) ∧ ((10 ≤ (I 96 lw).toInt ∧ r = -1 ∧ σ1 = σ ∧ I1 = I ∧ r1 = ri) ∨ ((I 96 lw).toInt ≤ 9 ∧ ∃ Iz : Nat → Nat → Int32, RDE σ σ1 rd I ri Iz J1 r1 rj rq ∧ (∀ b, b ∈ σ.1 → Iz 96 b = I 96 b) ∧ ((Iz 129 rd = 0 ∧ r = I 96 lw ∧ I1 = pq_u (pq_u Iz 193 sc 0) 96 lw (I 96 lw + 1)) ∨ (Iz 129 rd ≠ 0 ∧ r = -1 ∧ I1 = pq_u Iz 193 sc 0))))

set_option maxHeartbeats 4000000 in
set_option maxRecDepth 100000 in
theorem s_X4_read (l : Launch) (D : va_G) (t : pq_T) (σ : pq_S) (I : Nat → Nat → Int32) (J : Nat → Nat → Int64) (ri : Nat → Nat → Int32) (rj : Nat → Nat → Int64) (rq : Nat → Nat → Option Nat) (sz : Nat) (aK aV : Nat) (vF : Value) (tg : Nat → Nat) (hSH : SH σ tg) (hG0 : GS tg σ I ri rq) (hfi : FI σ) (this : Nat) (hL_this : this ∈ σ.1) (hK_this : σ.2.1 this = 4) : MetQS aK aV vF l yX4_read (wa yX4_read cX4_read 2 (some (.object "RingsUnder$Text"))) ({ frames := 9, cells := 4, slots := 345, locals := 194 }) [.ref this] D t σ (I, J, ri, rj, rq) sz 4 345 (fun (r : Option Nat) (u : pq_S × pq_M) => ∃ (q : Nat) (σ' : pq_S) (tg' : Nat → Nat) (I' : Nat → Nat → Int32) (J' : Nat → Nat → Int64) (ri' : Nat → Nat → Int32), r = some q ∧ u = (σ', I', J', ri', rj, rq) ∧ q ∈ σ'.1 ∧ σ'.2.1 q = 8 ∧ SH σ' tg' ∧ GS tg' σ' I' ri' rq ∧ FI σ' ∧ EX σ σ' tg tg' ∧ KC [197, 194, 129, 132, 134, 256] σ I I' ∧ KR [197, 194, 129, 132, 134, 256] σ tg ri ri' ∧ RDE σ σ' this I ri I' J' ri' rj rq) := by
  refine Met.ofW (cc := cX4_read) (maxL := 2) (ret := (some (.object "RingsUnder$Text"))) (by decide +kernel) rfl ?_
  intro p e s m args below meth c s₁ B hml hv
  obtain ⟨rfl, ⟨hsz, hP, hK, hD0, hN⟩, hW0⟩ := hv
  have hx := B.exec
  have hb := B.bytes
  have hr := B.returns
  have hts := atoms_spec (ws := (wa yX4_read cX4_read 2 (some (.object "RingsUnder$Text")))) B.pre
  have hown : s.vm.findClass RX4 = some m.cls := findClass_of_methodNamed B.named
  subst hsz
  have hD : va_D (pq_B t σ (I, J, ri, rj, rq) s.heap.size) (pq_P t σ (I, J, ri, rj, rq)) := hD0.self
  generalize hAe : pq_B t σ (I, J, ri, rj, rq) s.heap.size = A at hD hW0 ⊢
  have hA : ∀ q : Nat, s.heap.size ≤ q → A q := fun q h => by rw [← hAe]; exact Or.inr h
  have hS : va_S A s.heap s.heap [] := va_S.rf
  have hl := lv_entry ([.ref this]) (n := 2) (Nat.le_of_ble_eq_true rfl)
  rw [lg_entry_eq]
  generalize (lg_sl ([.ref this]) ++ List.replicate (2 - (lg_sl ([.ref this])).length) Slot.unset).toArray = ls at hl ⊢
  have hl : lv_has ls 2 [(0, .ref this)] := hl
  refine q_gen (fun Q hQ => ?_)
  have go : ∀ (H : Heap) (locs : List Loc) (ls : Array Slot), va_P D vwCl (pq_P t σ (I, J, ri, rj, rq)) H → va_D A (pq_P t σ (I, J, ri, rj, rq)) → va_S A s.heap H locs → lv_has ls 2 [(0, .ref this)] → W p l e ({ frames := 9, cells := 4, slots := 345, locals := 194 } : Room) s m (List.toArray ([.ref this] : List Value)) below meth c H locs 0 0 Q (F0 m 0 ls []) := by
    intro H locs ls hP hD hS hl
    refine lv_aload_n hx hb dX4_read_0 rfl (lv_at hl 0 rfl) ?_
    refine lv_iconst (v := 0) hx hb dX4_read_1 (by decide +kernel) ?_
    refine pp_i (v := 0) (ty := .int) (C := RX4) (T := TX4) (N := 12) hx hb hts (tw_i inlX4) tyX4 tyX4_ok nmX4 hown hK hP hD hS hL_this hK_this (by decide +kernel) rfl 1 129 (by decide +kernel) (hts _ (tw_c tw_155)) rfl (tyX4_ok 1 (by decide +kernel)) rfl rfl (Nat.le_of_ble_eq_true rfl) (ps_129 _ _ _ _ _) dX4_read_2 (fun I_1 H locs eI_1 hP hD hS => ?_)
    have hG : GX [129] tg σ I ri rj I ri rj rq := ⟨hG0, fun _ _ _ => rfl, fun _ _ _ _ _ => rfl, fun _ _ _ _ _ => rfl⟩
    have hG := GX.wI hG 129 rfl eI_1 (rg_full _) (by decide +kernel)
    refine lv_aload_n hx hb dX4_read_5 rfl (lv_at hl 0 rfl) ?_
    refine lv_iconst (v := (-1)) hx hb dX4_read_6 (by decide +kernel) ?_
    refine pp_i (v := (-1)) (ty := .int) (C := RX4) (T := TX4) (N := 12) hx hb hts (tw_i inlX4) tyX4 tyX4_ok nmX4 hown hK hP hD hS hL_this hK_this (by decide +kernel) rfl 2 130 (by decide +kernel) (hts _ (tw_c tw_156)) rfl (tyX4_ok 2 (by decide +kernel)) rfl rfl (Nat.le_of_ble_eq_true rfl) (ps_130 _ _ _ _ _) dX4_read_7 (fun I_2 H locs eI_2 hP hD hS => ?_)
    have hG := GX.wI hG 130 rfl eI_2 (rg_full _) (by decide +kernel)
    refine lv_aload_n hx hb dX4_read_10 rfl (lv_at hl 0 rfl) ?_
    refine nw_o (C := RX8) (T := TX8) (N := 4) hx hb hts (tw_i inlX8) tyX8 tyX8_ok hown (hts _ (tw_c tw_157)) (hts _ (tw_c tw_158)) (hts _ (tw_c tw_159)) hK hP hD hS hA (by decide +kernel) rfl nf_8 (Nat.le_of_ble_eq_true rfl) (Nat.le_of_ble_eq_true rfl) dX4_read_11 (fun q0 σ_4 I_5 J_6 H locs hn_7 hP hD hS => ?_)
    refine lv_dup hx hb dX4_read_14 rfl ?_
    refine pk_v (va_runIN (As := []) (rest := [.ref q0, .ref this]) ⟨hx, hb, hml, hown, hts⟩ (s_X8_init l D t σ_4 I_5 J_6 ri rj rq H.size q0 (Ns_in hn_7) (Ns_k hn_7)) ⟨va_cnB (host := "RingsUnder") 0 hts (tw_W tw_167) rfl rfl rfl (nl_10 hN) (hts _ (tw_c tw_159)) cd_yX8_init_0 ⟨Nat.le_of_ble_eq_true rfl, Nat.le_of_ble_eq_true rfl⟩, rfl, hts (.instanceMethod yX8_init) (tw_c tq_instanceMethod_yX8_init)⟩ ⟨pq_blind, pq_pre hK hN hP hD⟩ rfl rfl hl.1 rfl (lv_room (Nat.le_of_ble_eq_true rfl)) dX4_read_15 ⟨Nat.le_of_ble_eq_true rfl, Nat.le_of_ble_eq_true rfl⟩) hD hS hA (fun σ1 μ1 H locs hw_9 hP hD hS => ?_)
    obtain ⟨q1, q2, q3, sa, sb, sc, hu_16, g1, g2, g3⟩ := hw_9
    obtain ⟨hu_16a, hu_16b⟩ := Prod.mk.inj hu_16
    rw [hu_16a, hu_16b] at hP hD
    have hI5 : I_5 = pq_I0 I_2 q0 := hn_7.2.2
    have hNT : NTX σ sc q0 q1 q2 q3 := NTX_of hn_7 g1 g2 g3
    have hmem := hNT.2.2.1
    have hold := hNT.2.2.2.1
    have hLt : this ∈ sc.1 := (hmem this).mpr (Or.inl hL_this)
    have hL0 : q0 ∈ sc.1 := (hmem q0).mpr (Or.inr (Or.inl rfl))
    have hk0 : sc.2.1 q0 = 8 := hNT.2.2.2.2.1.1
    refine pr_N (q := q0) (C := RX4) (T := TX4) (N := 12) hx hb hts (tw_i inlX4) tyX4 tyX4_ok nmX4 hown hK hP hD hS hLt ((hold this hL_this).1.trans hK_this) (by decide +kernel) rfl 3 131 (by decide +kernel) (hts _ (tw_c tw_160)) rfl (tyX4_ok 3 (by decide +kernel)) rfl rfl (Nat.le_of_ble_eq_true rfl) (pr_131 _ _ _ _ _) dX4_read_18 (fun sd H locs hp_21 hP hD hS => ?_)
    have hEX := EX_new (tg := tg) hNT hp_21
    have hSH2 := SH_ps (SH_new hSH hNT) hp_21 hL0 hk0
    have hG2 : GS (tgN tg q1 q2 q3) sd I_5 (zr3 ri q1 q2 q3) rq := by
      rw [hI5]
      exact GS_ps (GS_new hSH hG.1 hNT) hp_21
    have hF2 := FI_ps (FI_new hSH hfi hNT) hp_21
    have e_sd : sd.1 = sc.1 ∧ sd.2.1 = sc.2.1 := by rw [hp_21]; exact ⟨rfl, rfl⟩
    have hL0 : q0 ∈ sd.1 := by rw [e_sd.1]; exact hL0
    have hk0 : sd.2.1 q0 = 8 := by rw [e_sd.2]; exact hk0
    have hLt : this ∈ sd.1 := by rw [e_sd.1]; exact hLt
    have hKt : sd.2.1 this = 4 := (hEX this hL_this).2.1.trans hK_this
    obtain ⟨scn, hR_s, hL_s, hK_s⟩ := sh_o hSH2 128 (ci := 4) (kd := 6) (ln := 0) rfl hLt hKt
    have hR_d : sd.2.2.1 131 this = some q0 := by rw [hp_21]; show pq_u sc.2.2.1 131 this (some q0) 131 this = some q0; exact pq_us _ _ _ _
    obtain ⟨fr, hR_f, hL_f, hK_f, hN_f, hT_f⟩ := sh_a hSH2 258 (ci := 8) (kd := 13) (len := 21) rfl (by decide +kernel) hL0 hk0
    have e_fr : fr = q2 := by
      have e1 : sd.2.2.1 258 q0 = some q2 := by
        rw [hp_21]
        show pq_u sc.2.2.1 131 this (some q0) 258 q0 = _
        rw [pq_uf _ _ _ (by decide +kernel)]
        exact hNT.2.2.2.2.2.2.2.1
      exact Option.some.inj (hR_f.symm.trans e1)
    have hI5' : KC [197, 194, 129, 132, 134, 256] σ I I_5 := fun f hf hx b hb => by
      rw [hI5, show pq_I0 I_2 q0 f b = I_2 f b from va_up_ne _ _ (fun y => hNT.1.1 (y ▸ hb))]
      exact congrFun (hG.2.1 f hf (fun y => hx (by rw [List.mem_singleton.mp y]; decide))) b
    have hR5' : KR [197, 194, 129, 132, 134, 256] σ tg ri (zr3 ri q1 q2 q3) := fun t ht hx q hq _ => zr3_o (fun y => hNT.1.2.1 (y ▸ hq)) (fun y => hNT.1.2.2.1 (y ▸ hq)) (fun y => hNT.1.2.2.2 (y ▸ hq))
    subst hQ
    refine s_X4_read_rest l D t sd I_5 J_6 (zr3 ri q1 q2 q3) rj rq aK aV vF (tgN tg q1 q2 q3) hSH2 hG2 this hLt hKt scn hR_s hL_s hK_s q0 hR_d hL0 hk0 fr hR_f hL_f hK_f hN_f hT_f hF2 (by rw [hI5]; exact va_up_self _ _ _) (by rw [e_fr]; unfold zr3; rw [va_up_ne _ _ hNT.2.1.2.2.2.2.2, va_up_self]) hx hb hml hts hown hK hN hW0 hA H locs ls hP hD hS hl ?_
    intro I' ri' H locs ls hG3 hFn hP hD hS hls
    exact W.aret (v := .ref q0) hx hb hr (Or.inl ⟨_, rfl⟩) (Or.inr ⟨_, rfl⟩) (fun t1 ht hW => ⟨⟨some q0, (sd, I', J_6, ri', rj, rq), rfl, ⟨q0, sd, _, I', J_6, ri', rfl, rfl, hL0, hk0, hSH2, hG3.1, hF2, hEX, KC_x (tg := tg) (tg1 := tg) (σ1 := σ) hI5' hG3, KR_x hR5' hG3 (fun q hq => tgN_o (fun y => hNT.1.2.1 (y ▸ hq)) (fun y => hNT.1.2.2.1 (y ▸ hq)) (fun y => hNT.1.2.2.2 (y ▸ hq))), rde_of hSH hL_this hK_this hEX hNT.1.1 hNT.1.2.1 hNT.1.2.2.1 hNT.1.2.2.2 hR_d eI_1 eI_2 hI5 hFn⟩, by rw [ht]; exact hP, va_K.moved hW.alike hK, hD⟩, hS.F ht⟩) hS.2.2 dX4_read_89
  exact go _ _ _ hP hD hS hl

set_option maxHeartbeats 4000000 in
set_option maxRecDepth 100000 in
theorem s_X11_text_rest {p : Program} {e : Env} {s : State} {m : MethodId} {args : Array Value} {below : List Frame} {meth : Method} {c : Code} {Q : State → Prop} {A : Nat → Prop} (l : Launch) (D : va_G) (t : pq_T) (σ : pq_S) (I : Nat → Nat → Int32) (J : Nat → Nat → Int64) (ri : Nat → Nat → Int32) (rj : Nat → Nat → Int64) (rq : Nat → Nat → Option Nat) (aK aV : Nat) (vF : Value) (tg : Nat → Nat) (hSH : SH σ tg) (hG0 : GS tg σ I ri rq) (this : Nat) (hL_this : this ∈ σ.1) (hK_this : σ.2.1 this = 11) (a0 : Nat) (hL_a0 : a0 ∈ σ.1) (hK_a0 : σ.2.1 a0 = 3) (a1 : Nat) (hL_a1 : a1 ∈ σ.1) (hK_a1 : σ.2.1 a1 = 8) (htc : (I 96 a0).toInt ≤ 9) (hx : p.tables.exec = Jvm.exec) (hb : c.code = cX11_text) (hml : c.maxLocals = 3) (hts : ∀ w ∈ (wa yX11_text cX11_text 3 (some .int)), w.before args s = true) (hown : s.vm.findClass RX11 = some m.cls) (hK : va_K D vwCl (pq_ty t) s) (hN : pq_N s) (hW0 : pq_W aK aV vF A s s.heap) (hA : ∀ q, s.heap.size ≤ q → A q) (H : Heap) (locs : List Loc) (ls : Array Slot) (hP : va_P D vwCl (pq_P t σ (I, J, ri, rj, rq)) H) (hD : va_D A (pq_P t σ (I, J, ri, rj, rq))) (hS : va_S A s.heap H locs) (hl : lv_has ls 3 [(1, .ref a0), (0, .ref this)]) (kr : ∀ (r : Int32) (pcr : Nat) (_ : pcr = 18 ∨ pcr = 49 ∨ pcr = 76) (I' : Nat → Nat → Int32) (rq' : Nat → Nat → Option Nat) (H : Heap) (locs : List Loc) (ls : Array Slot), GX [193, 96] tg σ I ri rj I' ri rj rq' → TXE σ this a0 I r I' → va_P D vwCl (pq_P t σ (I', J, ri, rj, rq')) H → va_D A (pq_P t σ (I', J, ri, rj, rq')) → va_S A s.heap H locs → ls.size = 3 → W p l e ({ frames := 10, cells := 4, slots := 345, locals := 215 } : Room) s m args below meth c H locs 4 345 Q (F0 m pcr ls [.int r])) : W p l e ({ frames := 10, cells := 4, slots := 345, locals := 215 } : Room) s m args below meth c H locs 4 345 Q (F0 m 26 ls [.ref a1]) := by
  have hG : GX [193, 96] tg σ I ri rj I ri rj rq := ⟨hG0, fun _ _ _ => rfl, fun _ _ _ _ _ => rfl, fun _ _ _ _ _ => rfl⟩
  refine lv_astore_n (lv' := [(2, .ref a1), (1, .ref a0), (0, .ref this)]) hx hb dX11_text_26 rfl hl (by decide +kernel) rfl (fun ls hl => ?_)
  refine lv_aload_n hx hb dX11_text_27 rfl (lv_at hl 2 rfl) ?_
  obtain ⟨w_1, hR_w_1, hL_w_1, hK_w_1⟩ := sh_o hSH 356 (ci := 11) (kd := 4) rfl hL_this hK_this
  refine pg_f (v := .ref w_1) (C := RX11) (T := TX11) (N := 5) hx hb hts (tw_i inlX11) hown hK hP hL_this hK_this (by decide +kernel) rfl 4 (by decide +kernel) (hts _ (tw_c tw_26)) (pq_hv rfl hR_w_1) dX11_text_28 ?_
  obtain ⟨w_2, hR_w_2, hL_w_2, hK_w_2⟩ := sh_o hSH 128 (ci := 4) (kd := 6) rfl hL_w_1 hK_w_1
  refine pg_f (v := .ref w_2) (C := RX4) (T := TX4) (N := 12) hx hb hts (tw_i inlX4) hown hK hP hL_w_1 hK_w_1 (by decide +kernel) rfl 0 (by decide +kernel) (hts _ (tw_c tw_620)) (pq_hv rfl hR_w_2) dX11_text_31 ?_
  refine lv_iconst (v := 0) hx hb dX11_text_34 (by decide +kernel) ?_
  refine pp_i (v := 0) (ty := .int) (C := RX6) (T := TX6) (N := 6) hx hb hts (tw_i inlX6) tyX6 tyX6_ok nmX6 hown hK hP hD hS hL_w_2 hK_w_2 (by decide +kernel) rfl 1 193 (by decide +kernel) (hts _ (tw_c tw_621)) rfl (tyX6_ok 1 (by decide +kernel)) rfl rfl (Nat.le_of_ble_eq_true rfl) (ps_193 _ _ _ _ _) dX11_text_35 (fun I_3 H locs eI_3 hP hD hS => ?_)
  have hG := GX.wI hG 193 rfl eI_3 (rg_w (rg_k (0 : Int32) 0 rfl) (by decide +kernel)) (by decide +kernel)
  refine lv_aload_n hx hb dX11_text_38 rfl (lv_at hl 2 rfl) ?_
  refine pg_f (v := .ref w_1) (C := RX11) (T := TX11) (N := 5) hx hb hts (tw_i inlX11) hown hK hP hL_this hK_this (by decide +kernel) rfl 4 (by decide +kernel) (hts _ (tw_c tw_26)) (pq_hv rfl hR_w_1) dX11_text_39 ?_
  refine pg_f (v := .int (I_3 129 w_1)) (C := RX4) (T := TX4) (N := 12) hx hb hts (tw_i inlX4) hown hK hP hL_w_1 hK_w_1 (by decide +kernel) rfl 1 (by decide +kernel) (hts _ (tw_c tw_650)) rfl dX11_text_42 ?_
  refine lv_if_eq (tgt := 50) hx hb dX11_text_45 (by decide +kernel) (fun c_4 => ?_) (fun c_4 => ?_)
  · have h_5 : rg (I_3 129 w_1) 0 0 := rg_and (rg_full _) (rg_of_eq c_4 (rg_k (0 : Int32) 0 rfl)) (by decide +kernel)
    refine lv_aload_n hx hb dX11_text_50 rfl (lv_at hl 1 rfl) ?_
    obtain ⟨w_6, hR_w_6, hL_w_6, hK_w_6, hN_w_6, hT_w_6⟩ := sh_a hSH 97 (ci := 3) (kd := 16) (len := 10) rfl (by decide +kernel) hL_a0 hK_a0
    refine pg_f (v := .ref w_6) (C := RX3) (T := TX3) (N := 8) hx hb hts (tw_i inlX3) hown hK hP hL_a0 hK_a0 (by decide +kernel) rfl 1 (by decide +kernel) (hts _ (tw_c tw_651)) (pq_hv rfl hR_w_6) dX11_text_51 ?_
    refine lv_aload_n hx hb dX11_text_54 rfl (lv_at hl 1 rfl) ?_
    refine pg_f (v := .int (I_3 96 a0)) (C := RX3) (T := TX3) (N := 8) hx hb hts (tw_i inlX3) hown hK hP hL_a0 hK_a0 (by decide +kernel) rfl 0 (by decide +kernel) (hts _ (tw_c tw_649)) rfl dX11_text_55 ?_
    have h_7 : rg (I_3 96 a0) 0 9 := (by rw [eI_3, pq_uf _ _ _ (by decide +kernel)]; exact ⟨(show (0 : Int) ≤ _ from (hG0.1 96 a0).1), htc⟩)
    refine lv_aload_n hx hb dX11_text_58 rfl (lv_at hl 0 rfl) ?_
    refine pt_q hx hb hK hP hD hS hL_w_6 hK_w_6 hN_w_6 hL_a1 hK_a1 (rg_in h_7 (by decide +kernel)) dX11_text_59 (fun rq_8 H locs erq_8 hP hD hS => ?_)
    have hG := GX.wQ hG hL_a1 hK_a1 erq_8
    refine lv_aload_n hx hb dX11_text_60 rfl (lv_at hl 1 rfl) ?_
    refine lv_dup hx hb dX11_text_61 rfl ?_
    refine pg_f (v := .int (I_3 96 a0)) (C := RX3) (T := TX3) (N := 8) hx hb hts (tw_i inlX3) hown hK hP hL_a0 hK_a0 (by decide +kernel) rfl 0 (by decide +kernel) (hts _ (tw_c tw_649)) rfl dX11_text_62 ?_
    refine lv_iconst (v := 1) hx hb dX11_text_65 (by decide +kernel) ?_
    refine lv_iadd hx hb dX11_text_66 ?_
    refine lv_topi (fun x_9 ex_9 => ?_)
    have h_10 : rg x_9 1 10 := rg_of_eq ex_9 (rg_add h_7 (rg_k (1 : Int32) 1 rfl) (by decide +kernel))
    refine pp_i (v := x_9) (ty := .int) (C := RX3) (T := TX3) (N := 8) hx hb hts (tw_i inlX3) tyX3 tyX3_ok nmX3 hown hK hP hD hS hL_a0 hK_a0 (by decide +kernel) rfl 0 96 (by decide +kernel) (hts _ (tw_c tw_649)) rfl (tyX3_ok 0 (by decide +kernel)) rfl rfl (Nat.le_of_ble_eq_true rfl) (ps_96 _ _ _ _ _) dX11_text_67 (fun I_11 H locs eI_11 hP hD hS => ?_)
    have hG := GX.wI hG 96 rfl eI_11 (rg_w h_10 (by decide +kernel)) (by decide +kernel)
    refine lv_aload_n hx hb dX11_text_70 rfl (lv_at hl 1 rfl) ?_
    refine pg_f (v := .int (I_11 96 a0)) (C := RX3) (T := TX3) (N := 8) hx hb hts (tw_i inlX3) hown hK hP hL_a0 hK_a0 (by decide +kernel) rfl 0 (by decide +kernel) (hts _ (tw_c tw_649)) rfl dX11_text_71 ?_
    have h_12 : rg (I_11 96 a0) 1 10 := (by rw [eI_11, pq_us]; exact h_10)
    refine lv_iconst (v := 1) hx hb dX11_text_74 (by decide +kernel) ?_
    refine lv_isub hx hb dX11_text_75 ?_
    refine lv_topi (fun x_13 ex_13 => ?_)
    have h_14 : rg x_13 0 9 := rg_of_eq ex_13 (rg_sub h_12 (rg_k (1 : Int32) 1 rfl) (by decide +kernel))
    exact kr x_13 76 (by decide +kernel) I_11 rq_8 H locs ls hG ⟨w_1, w_2, hR_w_1, hR_w_2, Or.inl ⟨by rw [eI_3, pq_uf _ _ _ (by decide +kernel)] at c_4; exact c_4, by rw [ex_13, eI_11, pq_us, ex_9, eI_3, pq_uf _ _ _ (by decide +kernel)]; exact i_cn _ _, by rw [eI_11, ex_9, eI_3, pq_uf _ _ _ (by decide +kernel)]⟩⟩ hP hD hS hl.1
  · refine lv_iconst (v := (-1)) hx hb dX11_text_48 (by decide +kernel) ?_
    exact kr (-1 : Int32) 49 (by decide +kernel) I_3 rq H locs ls hG ⟨w_1, w_2, hR_w_1, hR_w_2, Or.inr ⟨fun q => c_4 (by rw [eI_3, pq_uf _ _ _ (by decide +kernel)]; exact q), rfl, eI_3⟩⟩ hP hD hS hl.1

set_option maxHeartbeats 4000000 in
set_option maxRecDepth 100000 in
theorem s_X11_text (l : Launch) (D : va_G) (t : pq_T) (σ : pq_S) (I : Nat → Nat → Int32) (J : Nat → Nat → Int64) (ri : Nat → Nat → Int32) (rj : Nat → Nat → Int64) (rq : Nat → Nat → Option Nat) (sz : Nat) (aK aV : Nat) (vF : Value) (tg : Nat → Nat) (hSH : SH σ tg) (hG0 : GS tg σ I ri rq) (hfi : FI σ) (this : Nat) (hL_this : this ∈ σ.1) (hK_this : σ.2.1 this = 11) : MetIS aK aV vF l yX11_text (wa yX11_text cX11_text 3 (some .int)) ({ frames := 10, cells := 4, slots := 345, locals := 215 }) [.ref this] D t σ (I, J, ri, rj, rq) sz 4 345 (fun (r : Int32) (u : pq_S × pq_M) => ∃ (σ' : pq_S) (tg' : Nat → Nat) (I' : Nat → Nat → Int32) (J' : Nat → Nat → Int64) (ri' : Nat → Nat → Int32) (rq' : Nat → Nat → Option Nat), u = (σ', I', J', ri', rj, rq') ∧ SH σ' tg' ∧ GS tg' σ' I' ri' rq' ∧ FI σ' ∧ EX σ σ' tg tg' ∧ KC [197, 194, 129, 132, 134, 256, 193, 96] σ I I' ∧ KR [197, 194, 129, 132, 134, 256, 193, 96] σ tg ri ri' ∧ TXF σ σ' this I ri r I' J' ri' rj rq) := by
  refine Met.ofW (cc := cX11_text) (maxL := 3) (ret := (some .int)) (by decide +kernel) rfl ?_
  intro p e s m args below meth c s₁ B hml hv
  obtain ⟨rfl, ⟨hsz, hP, hK, hD0, hN⟩, hW0⟩ := hv
  have hx := B.exec
  have hb := B.bytes
  have hr := B.returns
  have hts := atoms_spec (ws := (wa yX11_text cX11_text 3 (some .int))) B.pre
  have hown : s.vm.findClass RX11 = some m.cls := findClass_of_methodNamed B.named
  subst hsz
  have hD : va_D (pq_B t σ (I, J, ri, rj, rq) s.heap.size) (pq_P t σ (I, J, ri, rj, rq)) := hD0.self
  generalize hAe : pq_B t σ (I, J, ri, rj, rq) s.heap.size = A at hD hW0 ⊢
  have hA : ∀ q : Nat, s.heap.size ≤ q → A q := fun q h => by rw [← hAe]; exact Or.inr h
  have hS : va_S A s.heap s.heap [] := va_S.rf
  have hl := lv_entry ([.ref this]) (n := 3) (Nat.le_of_ble_eq_true rfl)
  rw [lg_entry_eq]
  generalize (lg_sl ([.ref this]) ++ List.replicate (3 - (lg_sl ([.ref this])).length) Slot.unset).toArray = ls at hl ⊢
  have hl : lv_has ls 3 [(0, .ref this)] := hl
  refine q_gen (fun Q hQ => ?_)
  have go : ∀ (H : Heap) (locs : List Loc) (ls : Array Slot), va_P D vwCl (pq_P t σ (I, J, ri, rj, rq)) H → va_D A (pq_P t σ (I, J, ri, rj, rq)) → va_S A s.heap H locs → lv_has ls 3 [(0, .ref this)] → W p l e ({ frames := 10, cells := 4, slots := 345, locals := 215 } : Room) s m (List.toArray ([.ref this] : List Value)) below meth c H locs 0 0 Q (F0 m 0 ls []) := by
    intro H locs ls hP hD hS hl
    refine lv_aload_n hx hb dX11_text_0 rfl (lv_at hl 0 rfl) ?_
    obtain ⟨nw, hR_nw, hL_nw, hK_nw⟩ := sh_o hSH 352 (ci := 11) (kd := 10) (ln := 0) rfl hL_this hK_this
    obtain ⟨lw, hR_lw, hL_lw, hK_lw⟩ := sh_o hSH 329 (ci := 10) (kd := 3) (ln := 0) rfl hL_nw hK_nw
    obtain ⟨rd, hR_rd, hL_rd, hK_rd⟩ := sh_o hSH 356 (ci := 11) (kd := 4) (ln := 0) rfl hL_this hK_this
    refine pg_f (v := .ref nw) (C := RX11) (T := TX11) (N := 5) hx hb hts (tw_i inlX11) hown hK hP hL_this hK_this (by decide +kernel) rfl 0 (by decide +kernel) (hts _ (tw_c tw_16)) (pq_hv rfl hR_nw) dX11_text_1 ?_
    refine pg_f (v := .ref lw) (C := RX10) (T := TX10) (N := 13) hx hb hts (tw_i inlX10) hown hK hP hL_nw hK_nw (by decide +kernel) rfl 9 (by decide +kernel) (hts _ (tw_c tw_648)) (pq_hv rfl hR_lw) dX11_text_4 ?_
    refine lv_astore_n (lv' := [(1, .ref lw), (0, .ref this)]) hx hb dX11_text_7 rfl hl (by decide +kernel) rfl (fun ls hl => ?_)
    refine lv_aload_n hx hb dX11_text_8 rfl (lv_at hl 0 rfl) ?_
    refine pg_f (v := .int (I 96 lw)) (C := RX3) (T := TX3) (N := 8) hx hb hts (tw_i inlX3) hown hK hP hL_lw hK_lw (by decide +kernel) rfl 0 (by decide +kernel) (hts _ (tw_c tw_649)) rfl dX11_text_9 ?_
    refine lv_bipush (v := 10) hx hb dX11_text_12 (by decide +kernel) ?_
    refine lv_icmp_lt (tgt := 19) hx hb dX11_text_14 (by decide +kernel) (fun c_1 => ?_) (fun c_1 => ?_)
    · refine lv_aload_n hx hb dX11_text_19 rfl (lv_at hl 1 rfl) ?_
      refine pg_f (v := .ref rd) (C := RX11) (T := TX11) (N := 5) hx hb hts (tw_i inlX11) hown hK hP hL_this hK_this (by decide +kernel) rfl 4 (by decide +kernel) (hts _ (tw_c tw_26)) (pq_hv rfl hR_rd) dX11_text_20 ?_
      refine pk_q (va_runV (As := []) (rest := []) ⟨hx, hb, hml, hown, hts⟩ (s_X4_read l D t σ I J ri rj rq H.size aK aV vF tg hSH hG0 hfi rd hL_rd hK_rd) (cwV 0 hts (tw_V tw_652 tw_653 tw_654 tw_25 tw_655) rfl rfl rfl cv_yX4_read_0 ⟨Nat.le_of_ble_eq_true rfl, Nat.le_of_ble_eq_true rfl⟩) ⟨pq_blindS, pq_recv hK hP hL_rd hK_rd (by decide +kernel) rfl, pq_preS hK hN hP hD hS hA hW0⟩ rfl rfl hl.1 rfl (lv_room (Nat.le_of_ble_eq_true rfl)) dX11_text_23 ⟨Nat.le_of_ble_eq_true rfl, Nat.le_of_ble_eq_true rfl⟩) hD hS hA (fun x_1 σ1 μ1 H locs hw hP hD hS => ?_)
      obtain ⟨q, σ', tg', I', J', ri', hr1, hu, hLq, hKq, hSH', hG', hF', hEX, hKC, hKR, hRD⟩ := hw
      obtain ⟨hua, hub⟩ := Prod.mk.inj hu
      rw [hua, hub] at hP hD
      rw [hr1]
      have hL_this2 := (hEX this hL_this).1
      have hL_lw2 := (hEX lw hL_lw).1
      have htc : (I' 96 lw).toInt ≤ 9 := by
        have e : I' 96 lw = I 96 lw := hKC 96 (by decide +kernel) (by decide +kernel) lw hL_lw
        have c_2 := Int32.lt_iff_toInt_lt.mp c_1
        have z : (10 : Int32).toInt = 10 := rfl
        rw [e]
        omega
      have hKt : σ'.2.1 this = 11 := (hEX this hL_this).2.1.trans hK_this
      have hKl : σ'.2.1 lw = 3 := (hEX lw hL_lw).2.1.trans hK_lw
      obtain ⟨sc, hR_sc, hL_sc, hK_sc⟩ := sh_o hSH 128 (ci := 4) (kd := 6) (ln := 0) rfl hL_rd hK_rd
      have e96 : I' 96 lw = I 96 lw := hKC 96 (by decide +kernel) (by decide +kernel) lw hL_lw
      subst hQ
      refine s_X11_text_rest l D t σ' I' J' ri' rj rq aK aV vF tg' hSH' hG' this hL_this2 hKt lw hL_lw2 hKl q hLq hKq htc hx hb hml hts hown hK hN hW0 hA H locs _ hP hD hS hl ?_
      intro r pcr hpcr I2 rq2 H locs ls hG3 hTE hP hD hS hls
      have hTX : TXF σ σ' this I ri r I2 J' ri' rj rq := by
        obtain ⟨rd2, sc2, g1, g2, g3⟩ := hTE
        have d1 : rd2 = rd := Option.some.inj (g1.symm.trans (((hEX this hL_this).2.2.2.2 356 (by decide +kernel)).trans hR_rd))
        rw [d1] at g2 g3
        have d2 : sc2 = sc := Option.some.inj (g2.symm.trans (((hEX rd hL_rd).2.2.2.2 128 (by decide +kernel)).trans hR_sc))
        rw [d2, e96] at g3
        exact ⟨nw, lw, rd, sc, ⟨hR_nw, hR_lw, hR_rd, hR_sc⟩, Or.inr ⟨by rw [← e96]; exact htc, I', hRD, fun b hb => hKC 96 (by decide +kernel) (by decide +kernel) b hb, g3⟩⟩
      have hKC2 : KC [197, 194, 129, 132, 134, 256, 193, 96] σ I I2 := fun f hf hx b hb => (congrFun (hG3.2.1 f hf (fun y => hx (by simp only [List.mem_cons, List.not_mem_nil, or_false] at y ⊢; omega))) b).trans (hKC f hf (fun y => hx (by simp only [List.mem_cons, List.not_mem_nil, or_false] at y ⊢; omega)) b hb)
      have hKR2 : KR [197, 194, 129, 132, 134, 256, 193, 96] σ tg ri ri' := fun t ht hx q hq hq2 => hKR t ht (fun y => hx (by simp only [List.mem_cons, List.not_mem_nil, or_false] at y ⊢; omega)) q hq hq2
      rcases hpcr with h | h | h
      · subst h
        exact W.iret (v := r) hx hb hr (fun t1 ht hW => ⟨⟨r, (σ', I2, J', ri', rj, rq2), rfl, ⟨σ', tg', I2, J', ri', rq2, rfl, hSH', hG3.1, hF', hEX, hKC2, hKR2, hTX⟩, by rw [ht]; exact hP, va_K.moved hW.alike hK, hD⟩, hS.F ht⟩) hS.2.2 dX11_text_18
      · subst h
        exact W.iret (v := r) hx hb hr (fun t1 ht hW => ⟨⟨r, (σ', I2, J', ri', rj, rq2), rfl, ⟨σ', tg', I2, J', ri', rq2, rfl, hSH', hG3.1, hF', hEX, hKC2, hKR2, hTX⟩, by rw [ht]; exact hP, va_K.moved hW.alike hK, hD⟩, hS.F ht⟩) hS.2.2 dX11_text_49
      · subst h
        exact W.iret (v := r) hx hb hr (fun t1 ht hW => ⟨⟨r, (σ', I2, J', ri', rj, rq2), rfl, ⟨σ', tg', I2, J', ri', rq2, rfl, hSH', hG3.1, hF', hEX, hKC2, hKR2, hTX⟩, by rw [ht]; exact hP, va_K.moved hW.alike hK, hD⟩, hS.F ht⟩) hS.2.2 dX11_text_76
    · refine lv_iconst (v := (-1)) hx hb dX11_text_17 (by decide +kernel) ?_
      subst hQ
      refine W.widen (show 0 ≤ 4 by decide +kernel) (show 0 ≤ 345 by decide +kernel) ?_
      have hTX : TXF σ σ this I ri (-1) I J ri rj rq := by
        obtain ⟨sc, hR_sc, hL_sc, hK_sc⟩ := sh_o hSH 128 (ci := 4) (kd := 6) (ln := 0) rfl hL_rd hK_rd
        have c_2 : ¬ (I 96 lw).toInt < (10 : Int32).toInt := fun q => c_1 (Int32.lt_iff_toInt_lt.mpr q)
        have z : (10 : Int32).toInt = 10 := rfl
        exact ⟨nw, lw, rd, sc, ⟨hR_nw, hR_lw, hR_rd, hR_sc⟩, Or.inl ⟨by omega, rfl, rfl, rfl, rfl⟩⟩
      exact W.iret (v := (-1)) hx hb hr (fun t1 ht hW => ⟨⟨-1, (σ, I, J, ri, rj, rq), rfl, ⟨σ, tg, I, J, ri, rq, rfl, hSH, hG0, hfi, EX_rf, fun _ _ _ _ _ => rfl, fun _ _ _ _ _ _ => rfl, hTX⟩, by rw [ht]; exact hP, va_K.moved hW.alike hK, hD⟩, hS.F ht⟩) hS.2.2 dX11_text_18
  exact go _ _ _ hP hD hS hl
