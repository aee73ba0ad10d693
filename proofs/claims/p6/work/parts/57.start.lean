theorem dL_law_18 : decode cL_law 18 = .ok (.iload_n 3, 1) := oc_29 (by decide +kernel)
theorem dL_law_19 : decode cL_law 19 = .ok (.aload_n 0, 1) := oc_42 (by decide +kernel)
theorem dL_law_20 : decode cL_law 20 = .ok (.arraylength, 1) := oc_190 (by decide +kernel)
theorem dL_law_21 : decode cL_law 21 = .ok (.bipush 7, 2) := oc_16 (a := 7) (by decide +kernel)
theorem dL_law_23 : decode cL_law 23 = .ok (.isub, 1) := oc_100 (by decide +kernel)
theorem dL_law_24 : decode cL_law 24 = .ok (.if_icmp .gt 1707, 3) := oc_163 (a := 6) (b := 171) (by decide +kernel)
theorem dL_law_1731 : decode cL_law 1731 = .ok (.iconst 1, 1) := oc_4 (by decide +kernel)
theorem dL_law_1732 : decode cL_law 1732 = .ok (.ireturn, 1) := oc_172 (by decide +kernel)
theorem dL_law_1725 : decode cL_law 1725 = .ok (.iinc 3 7, 3) := oc_132 (b := 7) (by decide +kernel)
theorem dL_law_1728 : decode cL_law 1728 = .ok (.goto (-1710), 3) := oc_167 (a := 249) (b := 82) (by decide +kernel)
theorem dL_law_27 : decode cL_law 27 = .ok (.aload_n 0, 1) := oc_42 (by decide +kernel)
theorem dL_law_28 : decode cL_law 28 = .ok (.iload_n 3, 1) := oc_29 (by decide +kernel)
theorem dL_law_29 : decode cL_law 29 = .ok (.iaload, 1) := oc_46 (by decide +kernel)
theorem dL_law_30 : decode cL_law 30 = .ok (.bipush 63, 2) := oc_16 (a := 63) (by decide +kernel)
theorem dL_law_32 : decode cL_law 32 = .ok (.iand, 1) := oc_126 (by decide +kernel)
theorem dL_law_33 : decode cL_law 33 = .ok (.tableswitch 1692 0 40 #[179, 192, 267, 336, 379, 454, 517, 550, 603, 636, 659, 722, 755, 778, 811, 844, 907, 930, 943, 966, 1009, 1052, 1095, 1128, 1161, 1194, 1227, 1260, 1283, 1296, 1329, 1382, 1425, 1458, 1511, 1554, 1577, 1610, 1643, 1656, 1669], 179) := by decide +kernel
theorem tw_0 : Cond.classLink RL 7 RX11 ∈ wsL_law := sg_1 _ (List.mem_of_getElem? (i := 0) rfl)
theorem dL_law_0 : decode cL_law 0 = .ok (.new 7, 3) := oc_187 (a := 0) (b := 7) (by decide +kernel)
theorem dL_law_3 : decode cL_law 3 = .ok (.dup, 1) := oc_89 (by decide +kernel)
theorem tw_9 : Cond.code yX11_init cX11_init 1 none ∈ wsL_law := sg_1 _ (List.mem_of_getElem? (i := 9) rfl)
theorem tw_7 : Cond.methodLink RL 9 yX11_init ∈ wsL_law := sg_1 _ (List.mem_of_getElem? (i := 7) rfl)
theorem tw_8 : Cond.instanceMethod yX11_init ∈ wsL_law := sg_1 _ (List.mem_of_getElem? (i := 8) rfl)
theorem dL_law_4 : decode cL_law 4 = .ok (.invokespecial 9, 3) := oc_183 (a := 0) (b := 9) (by decide +kernel)
theorem dL_law_7 : decode cL_law 7 = .ok (.astore_n 1, 1) := oc_76 (by decide +kernel)
theorem tw_3 : Cond.classLink RL 10 RX12 ∈ wsL_law := sg_1 _ (List.mem_of_getElem? (i := 3) rfl)
theorem dL_law_8 : decode cL_law 8 = .ok (.new 10, 3) := oc_187 (a := 0) (b := 10) (by decide +kernel)
theorem dL_law_11 : decode cL_law 11 = .ok (.dup, 1) := oc_89 (by decide +kernel)
theorem tw_174 : Cond.code yX12_init cX12_init 2 none ∈ wsL_law := sg_8 _ (List.mem_of_getElem? (i := 6) rfl)
theorem tw_172 : Cond.methodLink RL 12 yX12_init ∈ wsL_law := sg_8 _ (List.mem_of_getElem? (i := 4) rfl)
theorem tw_173 : Cond.instanceMethod yX12_init ∈ wsL_law := sg_8 _ (List.mem_of_getElem? (i := 5) rfl)
theorem dL_law_12 : decode cL_law 12 = .ok (.invokespecial 12, 3) := oc_183 (a := 0) (b := 12) (by decide +kernel)
theorem dL_law_15 : decode cL_law 15 = .ok (.astore_n 2, 1) := oc_77 (by decide +kernel)
theorem dL_law_16 : decode cL_law 16 = .ok (.iconst 0, 1) := oc_3 (by decide +kernel)
theorem dL_law_17 : decode cL_law 17 = .ok (.istore_n 3, 1) := oc_62 (by decide +kernel)
theorem LI_S {s : State} {D : va_G} {t : pq_T} {this that : Nat} {H : Heap} {locs : List Loc} (h : LI s D t this that H locs) : va_S (fun q => s.heap.size ≤ q) s.heap H locs := by
  obtain ⟨_, _, _, _, _, _, _, _, _, _, _, _, _, _, _, _, _, _, _, _, _, _, _, _, _, _, _, _, _, _, _, _, _, h⟩ := h
  exact h
theorem lw_len {L : Nat} (h : L ≤ 3584) : (Int32.ofNat L - 7).toInt = (L : Int) - 7 := by
  have e : (Int32.ofNat L).toInt = (L : Int) := Int32.toInt_ofNat_of_lt (by omega)
  have q := i_sub_rg (x := Int32.ofNat L) (y := (7 : Int32)) (a := 0) (b := 3584) (c := 7) (d := 7) (a2 := (Int32.ofNat L).toInt) (b2 := 7) rfl rfl ⟨by omega, by omega⟩ (rg_k (7 : Int32) 7 rfl) (by decide +kernel)
  rw [q, e]
theorem lw_s7 {x3 : Int32} {n L : Nat} (h3 : x3.toInt = 7 * (n : Int)) (hL : 7 * n + 7 ≤ L) (hM : L ≤ 3584) : (x3 + Int32.ofInt 7).toInt = 7 * ((n + 1 : Nat) : Int) := by
  have q := i_add_rg (a := 0) (b := 3584) (c := 7) (d := 7) (x := x3) (y := (7 : Int32)) (a2 := x3.toInt) (b2 := 7) rfl rfl ⟨by omega, by omega⟩ (rg_k (7 : Int32) 7 rfl) (by decide +kernel)
  have e : x3 + Int32.ofInt 7 = x3 + (7 : Int32) := rfl
  rw [e, q]; omega
set_option maxHeartbeats 8000000 in
set_option maxRecDepth 100000 in
theorem lw_loop {p : Program} {e : Env} {s : State} {m : MethodId} {below : List Frame} {meth : Method} {c : Code} {b : Nat} (l : Launch) (hx : p.tables.exec = Jvm.exec) (hb : c.code = cL_law) (hr : meth.sig.returnType = ret) (hml : c.maxLocals = 4) (hown : s.vm.findClass RL = some m.cls) (hlocks : meth.locks = false) (hts : ∀ w ∈ (Cond.initialized RX11 :: wsL_law), w.before #[Value.ref b] s = true) {L : Nat} (xs : Nat → Int32) (hX : va_X b L xs s s.heap) (hbl : b < s.heap.size) (hM : L ≤ 3584) {D : va_G} {t : pq_T} (hK : va_K D vwCl (pq_ty t) s) (hN : pq_N s) {aK aV : Nat} {vF : Value} (hW0 : pq_W aK aV vF (fun q => s.heap.size ≤ q) s s.heap) {this that : Nat} : ∀ (k n : Nat) (x3 : Int32) (cells slots : Nat) (H : Heap) (locs : List Loc) (ls : Array Slot), L < 7 * (n + k) → 7 * n ≤ L → x3.toInt = 7 * (n : Int) → cells ≤ 207 + 4 * n → slots ≤ 49062 + 345 * n → LI s D t this that H locs → lv_has ls 4 [(3, .int x3), (2, .ref that), (1, .ref this), (0, .ref b)] → W p l e room_1 s m #[Value.ref b] below meth c H locs cells slots (lw_Z below #[Value.ref b] s) (F0 m 18 ls []) := by
  intro k
  induction k with
  | zero => intro n x3 cells slots H locs ls h1 h2; exact absurd h1 (by omega)
  | succ k ih =>
    intro n x3 cells slots H locs ls h1 h2 h3 hc hs hI hl
    have hS := LI_S hI
    refine lv_iload_n hx hb dL_law_18 rfl (lv_at hl 0 rfl) ?_
    refine lv_aload_n hx hb dL_law_19 rfl (lv_at hl 3 rfl) ?_
    refine va_slen hx hb hX hbl (Nat.not_le.mpr hbl) hS dL_law_20 ?_
    refine lv_bipush (v := 7) hx hb dL_law_21 (by decide +kernel) ?_
    refine lv_isub hx hb dL_law_23 ?_
    refine lv_icmp_gt (tgt := 1731) hx hb dL_law_24 (by decide +kernel) (fun q => ?_) (fun q => ?_)
    · refine va_forget (fun q h => hS.2.2 q h) ?_
      refine W.widen (k := 600000) (n := 7302250) (by omega) (by omega) ?_
      refine lv_iconst (v := 1) hx hb dL_law_1731 (by decide +kernel) ?_
      exact lw_ret hx hb hr hlocks dL_law_1732
    · have q2 : x3.toInt ≤ (Int32.ofNat L - 7).toInt := Int32.le_iff_toInt_le.mp (nlt q)
      rw [lw_len hM] at q2
      have h7 : 7 * n + 7 ≤ L := by omega
      have hc2 : cells + 4 ≤ room_1.cells := show cells + 4 ≤ 600000 by omega
      have hs2 : slots + 345 ≤ room_1.slots := show slots + 345 ≤ 7302250 by omega
      have hnext : ∀ (cells2 slots2 : Nat) (H : Heap) (locs : List Loc) (ls : Array Slot), cells2 ≤ cells + 4 → slots2 ≤ slots + 345 → LI s D t this that H locs → lv_has ls 4 [(3, .int x3), (2, .ref that), (1, .ref this), (0, .ref b)] → W p l e room_1 s m #[Value.ref b] below meth c H locs cells2 slots2 (lw_Z below #[Value.ref b] s) (F0 m 1725 ls []) := by
        intro cells2 slots2 H locs ls hc2 hs2 hI hl
        refine lv_iinc (v := x3 + Int32.ofInt 7) (lv' := [(3, .int (x3 + Int32.ofInt 7)), (2, .ref that), (1, .ref this), (0, .ref b)]) hx hb dL_law_1725 hl (k := 0) rfl rfl (by decide +kernel) rfl (fun ls hl => ?_)
        refine lv_goto (tgt := 18) hx hb dL_law_1728 (by decide +kernel) ?_
        exact ih (n + 1) (x3 + Int32.ofInt 7) cells2 slots2 H locs ls (by omega) (by omega) (lw_s7 h3 h7 hM) (by omega) (by omega) hI hl
      refine lv_aload_n hx hb dL_law_27 rfl (lv_at hl 3 rfl) ?_
      refine lv_iload_n hx hb dL_law_28 rfl (lv_at hl 0 rfl) ?_
      refine va_sld hx hb hX hbl (Nat.not_le.mpr hbl) hS (vp_in_iff.mpr ⟨by omega, by omega⟩) dL_law_29 ?_
      refine lv_bipush (v := 63) hx hb dL_law_30 (by decide +kernel) ?_
      refine lv_iand hx hb dL_law_32 ?_
      refine lv_topi (fun x_2 ex_2 => ?_)
      by_cases k_0 : x_2 = (0 : Int32)
      · refine lv_tov (0) k_0 ?_
        refine lv_tableIn (tgt := 212) hx hb dL_law_33 (by decide +kernel) (by decide +kernel) rfl (by decide +kernel) ?_
        exact lw_op_0 l hx hb hr hml hown hlocks hts xs hX hbl hM hK hN hW0 h3 h7 hc2 hs2 hI hl hnext
      by_cases k_1 : x_2 = (1 : Int32)
      · refine lv_tov (1) k_1 ?_
        refine lv_tableIn (tgt := 225) hx hb dL_law_33 (by decide +kernel) (by decide +kernel) rfl (by decide +kernel) ?_
        exact lw_op_1 l hx hb hr hml hown hlocks hts xs hX hbl hM hK hN hW0 h3 h7 hc2 hs2 hI hl hnext
      by_cases k_2 : x_2 = (2 : Int32)
      · refine lv_tov (2) k_2 ?_
        refine lv_tableIn (tgt := 300) hx hb dL_law_33 (by decide +kernel) (by decide +kernel) rfl (by decide +kernel) ?_
        exact lw_op_2 l hx hb hr hml hown hlocks hts xs hX hbl hM hK hN hW0 h3 h7 hc2 hs2 hI hl hnext
      by_cases k_3 : x_2 = (3 : Int32)
      · refine lv_tov (3) k_3 ?_
        refine lv_tableIn (tgt := 369) hx hb dL_law_33 (by decide +kernel) (by decide +kernel) rfl (by decide +kernel) ?_
        exact lw_op_3 l hx hb hr hml hown hlocks hts xs hX hbl hM hK hN hW0 h3 h7 hc2 hs2 hI hl hnext
      by_cases k_4 : x_2 = (4 : Int32)
      · refine lv_tov (4) k_4 ?_
        refine lv_tableIn (tgt := 412) hx hb dL_law_33 (by decide +kernel) (by decide +kernel) rfl (by decide +kernel) ?_
        exact lw_op_4 l hx hb hr hml hown hlocks hts xs hX hbl hM hK hN hW0 h3 h7 hc2 hs2 hI hl hnext
      by_cases k_5 : x_2 = (5 : Int32)
      · refine lv_tov (5) k_5 ?_
        refine lv_tableIn (tgt := 487) hx hb dL_law_33 (by decide +kernel) (by decide +kernel) rfl (by decide +kernel) ?_
        exact lw_op_5 l hx hb hr hml hown hlocks hts xs hX hbl hM hK hN hW0 h3 h7 hc2 hs2 hI hl hnext
      by_cases k_6 : x_2 = (6 : Int32)
      · refine lv_tov (6) k_6 ?_
        refine lv_tableIn (tgt := 550) hx hb dL_law_33 (by decide +kernel) (by decide +kernel) rfl (by decide +kernel) ?_
        exact lw_op_6 l hx hb hr hml hown hlocks hts xs hX hbl hM hK hN hW0 h3 h7 hc2 hs2 hI hl hnext
      by_cases k_7 : x_2 = (7 : Int32)
      · refine lv_tov (7) k_7 ?_
        refine lv_tableIn (tgt := 583) hx hb dL_law_33 (by decide +kernel) (by decide +kernel) rfl (by decide +kernel) ?_
        exact lw_op_7 l hx hb hr hml hown hlocks hts xs hX hbl hM hK hN hW0 h3 h7 hc2 hs2 hI hl hnext
      by_cases k_8 : x_2 = (8 : Int32)
      · refine lv_tov (8) k_8 ?_
        refine lv_tableIn (tgt := 636) hx hb dL_law_33 (by decide +kernel) (by decide +kernel) rfl (by decide +kernel) ?_
        exact lw_op_8 l hx hb hr hml hown hlocks hts xs hX hbl hM hK hN hW0 h3 h7 hc2 hs2 hI hl hnext
      by_cases k_9 : x_2 = (9 : Int32)
      · refine lv_tov (9) k_9 ?_
        refine lv_tableIn (tgt := 669) hx hb dL_law_33 (by decide +kernel) (by decide +kernel) rfl (by decide +kernel) ?_
        exact lw_op_9 l hx hb hr hml hown hlocks hts xs hX hbl hM hK hN hW0 h3 h7 hc2 hs2 hI hl hnext
      by_cases k_10 : x_2 = (10 : Int32)
      · refine lv_tov (10) k_10 ?_
        refine lv_tableIn (tgt := 692) hx hb dL_law_33 (by decide +kernel) (by decide +kernel) rfl (by decide +kernel) ?_
        exact lw_op_10 l hx hb hr hml hown hlocks hts xs hX hbl hM hK hN hW0 h3 h7 hc2 hs2 hI hl hnext
      by_cases k_11 : x_2 = (11 : Int32)
      · refine lv_tov (11) k_11 ?_
        refine lv_tableIn (tgt := 755) hx hb dL_law_33 (by decide +kernel) (by decide +kernel) rfl (by decide +kernel) ?_
        exact lw_op_11 l hx hb hr hml hown hlocks hts xs hX hbl hM hK hN hW0 h3 h7 hc2 hs2 hI hl hnext
      by_cases k_12 : x_2 = (12 : Int32)
      · refine lv_tov (12) k_12 ?_
        refine lv_tableIn (tgt := 788) hx hb dL_law_33 (by decide +kernel) (by decide +kernel) rfl (by decide +kernel) ?_
        exact lw_op_12 l hx hb hr hml hown hlocks hts xs hX hbl hM hK hN hW0 h3 h7 hc2 hs2 hI hl hnext
      by_cases k_13 : x_2 = (13 : Int32)
      · refine lv_tov (13) k_13 ?_
        refine lv_tableIn (tgt := 811) hx hb dL_law_33 (by decide +kernel) (by decide +kernel) rfl (by decide +kernel) ?_
        exact lw_op_13 l hx hb hr hml hown hlocks hts xs hX hbl hM hK hN hW0 h3 h7 hc2 hs2 hI hl hnext
      by_cases k_14 : x_2 = (14 : Int32)
      · refine lv_tov (14) k_14 ?_
        refine lv_tableIn (tgt := 844) hx hb dL_law_33 (by decide +kernel) (by decide +kernel) rfl (by decide +kernel) ?_
        exact lw_op_14 l hx hb hr hml hown hlocks hts xs hX hbl hM hK hN hW0 h3 h7 hc2 hs2 hI hl hnext
      by_cases k_15 : x_2 = (15 : Int32)
      · refine lv_tov (15) k_15 ?_
        refine lv_tableIn (tgt := 877) hx hb dL_law_33 (by decide +kernel) (by decide +kernel) rfl (by decide +kernel) ?_
        exact lw_op_15 l hx hb hr hml hown hlocks hts xs hX hbl hM hK hN hW0 h3 h7 hc2 hs2 hI hl hnext
      by_cases k_16 : x_2 = (16 : Int32)
      · refine lv_tov (16) k_16 ?_
        refine lv_tableIn (tgt := 940) hx hb dL_law_33 (by decide +kernel) (by decide +kernel) rfl (by decide +kernel) ?_
        exact lw_op_16 l hx hb hr hml hown hlocks hts xs hX hbl hM hK hN hW0 h3 h7 hc2 hs2 hI hl hnext
      by_cases k_17 : x_2 = (17 : Int32)
      · refine lv_tov (17) k_17 ?_
        refine lv_tableIn (tgt := 963) hx hb dL_law_33 (by decide +kernel) (by decide +kernel) rfl (by decide +kernel) ?_
        exact lw_op_17 l hx hb hr hml hown hlocks hts xs hX hbl hM hK hN hW0 h3 h7 hc2 hs2 hI hl hnext
      by_cases k_18 : x_2 = (18 : Int32)
      · refine lv_tov (18) k_18 ?_
        refine lv_tableIn (tgt := 976) hx hb dL_law_33 (by decide +kernel) (by decide +kernel) rfl (by decide +kernel) ?_
        exact lw_op_18 l hx hb hr hml hown hlocks hts xs hX hbl hM hK hN hW0 h3 h7 hc2 hs2 hI hl hnext
      by_cases k_19 : x_2 = (19 : Int32)
      · refine lv_tov (19) k_19 ?_
        refine lv_tableIn (tgt := 999) hx hb dL_law_33 (by decide +kernel) (by decide +kernel) rfl (by decide +kernel) ?_
        exact lw_op_19 l hx hb hr hml hown hlocks hts xs hX hbl hM hK hN hW0 h3 h7 hc2 hs2 hI hl hnext
      by_cases k_20 : x_2 = (20 : Int32)
      · refine lv_tov (20) k_20 ?_
        refine lv_tableIn (tgt := 1042) hx hb dL_law_33 (by decide +kernel) (by decide +kernel) rfl (by decide +kernel) ?_
        exact lw_op_20 l hx hb hr hml hown hlocks hts xs hX hbl hM hK hN hW0 h3 h7 hc2 hs2 hI hl hnext
      by_cases k_21 : x_2 = (21 : Int32)
      · refine lv_tov (21) k_21 ?_
        refine lv_tableIn (tgt := 1085) hx hb dL_law_33 (by decide +kernel) (by decide +kernel) rfl (by decide +kernel) ?_
        exact lw_op_21 l hx hb hr hml hown hlocks hts xs hX hbl hM hK hN hW0 h3 h7 hc2 hs2 hI hl hnext
      by_cases k_22 : x_2 = (22 : Int32)
      · refine lv_tov (22) k_22 ?_
        refine lv_tableIn (tgt := 1128) hx hb dL_law_33 (by decide +kernel) (by decide +kernel) rfl (by decide +kernel) ?_
        exact lw_op_22 l hx hb hr hml hown hlocks hts xs hX hbl hM hK hN hW0 h3 h7 hc2 hs2 hI hl hnext
      by_cases k_23 : x_2 = (23 : Int32)
      · refine lv_tov (23) k_23 ?_
        refine lv_tableIn (tgt := 1161) hx hb dL_law_33 (by decide +kernel) (by decide +kernel) rfl (by decide +kernel) ?_
        exact lw_op_23 l hx hb hr hml hown hlocks hts xs hX hbl hM hK hN hW0 h3 h7 hc2 hs2 hI hl hnext
      by_cases k_24 : x_2 = (24 : Int32)
      · refine lv_tov (24) k_24 ?_
        refine lv_tableIn (tgt := 1194) hx hb dL_law_33 (by decide +kernel) (by decide +kernel) rfl (by decide +kernel) ?_
        exact lw_op_24 l hx hb hr hml hown hlocks hts xs hX hbl hM hK hN hW0 h3 h7 hc2 hs2 hI hl hnext
      by_cases k_25 : x_2 = (25 : Int32)
      · refine lv_tov (25) k_25 ?_
        refine lv_tableIn (tgt := 1227) hx hb dL_law_33 (by decide +kernel) (by decide +kernel) rfl (by decide +kernel) ?_
        exact lw_op_25 l hx hb hr hml hown hlocks hts xs hX hbl hM hK hN hW0 h3 h7 hc2 hs2 hI hl hnext
      by_cases k_26 : x_2 = (26 : Int32)
      · refine lv_tov (26) k_26 ?_
        refine lv_tableIn (tgt := 1260) hx hb dL_law_33 (by decide +kernel) (by decide +kernel) rfl (by decide +kernel) ?_
        exact lw_op_26 l hx hb hr hml hown hlocks hts xs hX hbl hM hK hN hW0 h3 h7 hc2 hs2 hI hl hnext
      by_cases k_27 : x_2 = (27 : Int32)
      · refine lv_tov (27) k_27 ?_
        refine lv_tableIn (tgt := 1293) hx hb dL_law_33 (by decide +kernel) (by decide +kernel) rfl (by decide +kernel) ?_
        exact lw_op_27 l hx hb hr hml hown hlocks hts xs hX hbl hM hK hN hW0 h3 h7 hc2 hs2 hI hl hnext
      by_cases k_28 : x_2 = (28 : Int32)
      · refine lv_tov (28) k_28 ?_
        refine lv_tableIn (tgt := 1316) hx hb dL_law_33 (by decide +kernel) (by decide +kernel) rfl (by decide +kernel) ?_
        exact lw_op_28 l hx hb hr hml hown hlocks hts xs hX hbl hM hK hN hW0 h3 h7 hc2 hs2 hI hl hnext
      by_cases k_29 : x_2 = (29 : Int32)
      · refine lv_tov (29) k_29 ?_
        refine lv_tableIn (tgt := 1329) hx hb dL_law_33 (by decide +kernel) (by decide +kernel) rfl (by decide +kernel) ?_
        exact lw_op_29 l hx hb hr hml hown hlocks hts xs hX hbl hM hK hN hW0 h3 h7 hc2 hs2 hI hl hnext
      by_cases k_30 : x_2 = (30 : Int32)
      · refine lv_tov (30) k_30 ?_
        refine lv_tableIn (tgt := 1362) hx hb dL_law_33 (by decide +kernel) (by decide +kernel) rfl (by decide +kernel) ?_
        exact lw_op_30 l hx hb hr hml hown hlocks hts xs hX hbl hM hK hN hW0 h3 h7 hc2 hs2 hI hl hnext
      by_cases k_31 : x_2 = (31 : Int32)
      · refine lv_tov (31) k_31 ?_
        refine lv_tableIn (tgt := 1415) hx hb dL_law_33 (by decide +kernel) (by decide +kernel) rfl (by decide +kernel) ?_
        exact lw_op_31 l hx hb hr hml hown hlocks hts xs hX hbl hM hK hN hW0 h3 h7 hc2 hs2 hI hl hnext
      by_cases k_32 : x_2 = (32 : Int32)
      · refine lv_tov (32) k_32 ?_
        refine lv_tableIn (tgt := 1458) hx hb dL_law_33 (by decide +kernel) (by decide +kernel) rfl (by decide +kernel) ?_
        exact lw_op_32 l hx hb hr hml hown hlocks hts xs hX hbl hM hK hN hW0 h3 h7 hc2 hs2 hI hl hnext
      by_cases k_33 : x_2 = (33 : Int32)
      · refine lv_tov (33) k_33 ?_
        refine lv_tableIn (tgt := 1491) hx hb dL_law_33 (by decide +kernel) (by decide +kernel) rfl (by decide +kernel) ?_
        exact lw_op_33 l hx hb hr hml hown hlocks hts xs hX hbl hM hK hN hW0 h3 h7 hc2 hs2 hI hl hnext
      by_cases k_34 : x_2 = (34 : Int32)
      · refine lv_tov (34) k_34 ?_
        refine lv_tableIn (tgt := 1544) hx hb dL_law_33 (by decide +kernel) (by decide +kernel) rfl (by decide +kernel) ?_
        exact lw_op_34 l hx hb hr hml hown hlocks hts xs hX hbl hM hK hN hW0 h3 h7 hc2 hs2 hI hl hnext
      by_cases k_35 : x_2 = (35 : Int32)
      · refine lv_tov (35) k_35 ?_
        refine lv_tableIn (tgt := 1587) hx hb dL_law_33 (by decide +kernel) (by decide +kernel) rfl (by decide +kernel) ?_
        exact lw_op_35 l hx hb hr hml hown hlocks hts xs hX hbl hM hK hN hW0 h3 h7 hc2 hs2 hI hl hnext
      by_cases k_36 : x_2 = (36 : Int32)
      · refine lv_tov (36) k_36 ?_
        refine lv_tableIn (tgt := 1610) hx hb dL_law_33 (by decide +kernel) (by decide +kernel) rfl (by decide +kernel) ?_
        exact lw_op_36 l hx hb hr hml hown hlocks hts xs hX hbl hM hK hN hW0 h3 h7 hc2 hs2 hI hl hnext
      by_cases k_37 : x_2 = (37 : Int32)
      · refine lv_tov (37) k_37 ?_
        refine lv_tableIn (tgt := 1643) hx hb dL_law_33 (by decide +kernel) (by decide +kernel) rfl (by decide +kernel) ?_
        exact lw_op_37 l hx hb hr hml hown hlocks hts xs hX hbl hM hK hN hW0 h3 h7 hc2 hs2 hI hl hnext
      by_cases k_38 : x_2 = (38 : Int32)
      · refine lv_tov (38) k_38 ?_
        refine lv_tableIn (tgt := 1676) hx hb dL_law_33 (by decide +kernel) (by decide +kernel) rfl (by decide +kernel) ?_
        exact lw_op_38 l hx hb hr hml hown hlocks hts xs hX hbl hM hK hN hW0 h3 h7 hc2 hs2 hI hl hnext
      by_cases k_39 : x_2 = (39 : Int32)
      · refine lv_tov (39) k_39 ?_
        refine lv_tableIn (tgt := 1689) hx hb dL_law_33 (by decide +kernel) (by decide +kernel) rfl (by decide +kernel) ?_
        exact lw_op_39 l hx hb hr hml hown hlocks hts xs hX hbl hM hK hN hW0 h3 h7 hc2 hs2 hI hl hnext
      by_cases k_40 : x_2 = (40 : Int32)
      · refine lv_tov (40) k_40 ?_
        refine lv_tableIn (tgt := 1702) hx hb dL_law_33 (by decide +kernel) (by decide +kernel) rfl (by decide +kernel) ?_
        exact lw_op_40 l hx hb hr hml hown hlocks hts xs hX hbl hM hK hN hW0 h3 h7 hc2 hs2 hI hl hnext
      refine lv_tableOut (tgt := 1725) hx hb dL_law_33 (by have := sw_ne k_0 (n := 0) rfl; have := sw_ne k_1 (n := 1) rfl; have := sw_ne k_2 (n := 2) rfl; have := sw_ne k_3 (n := 3) rfl; have := sw_ne k_4 (n := 4) rfl; have := sw_ne k_5 (n := 5) rfl; have := sw_ne k_6 (n := 6) rfl; have := sw_ne k_7 (n := 7) rfl; have := sw_ne k_8 (n := 8) rfl; have := sw_ne k_9 (n := 9) rfl; have := sw_ne k_10 (n := 10) rfl; have := sw_ne k_11 (n := 11) rfl; have := sw_ne k_12 (n := 12) rfl; have := sw_ne k_13 (n := 13) rfl; have := sw_ne k_14 (n := 14) rfl; have := sw_ne k_15 (n := 15) rfl; have := sw_ne k_16 (n := 16) rfl; have := sw_ne k_17 (n := 17) rfl; have := sw_ne k_18 (n := 18) rfl; have := sw_ne k_19 (n := 19) rfl; have := sw_ne k_20 (n := 20) rfl; have := sw_ne k_21 (n := 21) rfl; have := sw_ne k_22 (n := 22) rfl; have := sw_ne k_23 (n := 23) rfl; have := sw_ne k_24 (n := 24) rfl; have := sw_ne k_25 (n := 25) rfl; have := sw_ne k_26 (n := 26) rfl; have := sw_ne k_27 (n := 27) rfl; have := sw_ne k_28 (n := 28) rfl; have := sw_ne k_29 (n := 29) rfl; have := sw_ne k_30 (n := 30) rfl; have := sw_ne k_31 (n := 31) rfl; have := sw_ne k_32 (n := 32) rfl; have := sw_ne k_33 (n := 33) rfl; have := sw_ne k_34 (n := 34) rfl; have := sw_ne k_35 (n := 35) rfl; have := sw_ne k_36 (n := 36) rfl; have := sw_ne k_37 (n := 37) rfl; have := sw_ne k_38 (n := 38) rfl; have := sw_ne k_39 (n := 39) rfl; have := sw_ne k_40 (n := 40) rfl; omega) (by decide +kernel) ?_
      exact hnext _ _ H locs ls (by omega) (by omega) hI hl
set_option maxRecDepth 100000 in
theorem wsL_law_in : ∀ w ∈ wsL_law, w ∈ lw_tbl := by
  unfold wsL_law
  exact List.forall_mem_append.mpr ⟨List.forall_mem_append.mpr ⟨List.forall_mem_append.mpr ⟨List.forall_mem_append.mpr ⟨List.forall_mem_append.mpr ⟨List.forall_mem_append.mpr ⟨List.forall_mem_append.mpr ⟨List.forall_mem_append.mpr ⟨List.forall_mem_append.mpr ⟨List.forall_mem_append.mpr ⟨List.forall_mem_append.mpr ⟨List.forall_mem_append.mpr ⟨List.forall_mem_append.mpr ⟨List.forall_mem_append.mpr ⟨List.forall_mem_append.mpr ⟨lwi_wsL_law_r1, List.forall_mem_append.mpr ⟨lwi_wsL_law_r2, List.forall_mem_append.mpr ⟨lwi_wsL_law_r3, List.forall_mem_append.mpr ⟨lwi_wsL_law_r4, List.forall_mem_append.mpr ⟨lwi_wsL_law_r5, List.forall_mem_append.mpr ⟨lwi_wsL_law_r6, List.forall_mem_append.mpr ⟨lwi_wsL_law_r7, List.forall_mem_append.mpr ⟨lwi_wsL_law_r8, List.forall_mem_append.mpr ⟨lwi_wsL_law_r9, List.forall_mem_append.mpr ⟨lwi_wsL_law_r10, List.forall_mem_append.mpr ⟨lwi_wsL_law_r11, List.forall_mem_append.mpr ⟨lwi_wsL_law_r12, List.forall_mem_append.mpr ⟨lwi_wsL_law_r13, List.forall_mem_append.mpr ⟨lwi_wsL_law_r14, List.forall_mem_append.mpr ⟨lwi_wsL_law_r15, List.forall_mem_append.mpr ⟨lwi_wsL_law_r16, List.forall_mem_append.mpr ⟨lwi_wsL_law_r17, List.forall_mem_append.mpr ⟨lwi_wsL_law_r18, List.forall_mem_append.mpr ⟨lwi_wsL_law_r19, List.forall_mem_append.mpr ⟨lwi_wsL_law_r20, List.forall_mem_append.mpr ⟨lwi_wsL_law_r21, List.forall_mem_append.mpr ⟨lwi_wsL_law_r22, List.forall_mem_append.mpr ⟨lwi_wsL_law_r23, List.forall_mem_append.mpr ⟨lwi_wsL_law_r24, List.forall_mem_append.mpr ⟨lwi_wsL_law_r25, List.forall_mem_append.mpr ⟨lwi_wsL_law_r26, List.forall_mem_append.mpr ⟨lwi_wsL_law_r27, List.forall_mem_append.mpr ⟨lwi_wsL_law_r28, List.forall_mem_append.mpr ⟨lwi_wsL_law_r29, List.forall_mem_append.mpr ⟨lwi_wsL_law_r30, List.forall_mem_append.mpr ⟨lwi_wsL_law_r31, List.forall_mem_append.mpr ⟨lwi_wsL_law_r32, List.forall_mem_append.mpr ⟨lwi_wsL_law_r33, List.forall_mem_append.mpr ⟨lwi_wsL_law_r34, List.forall_mem_append.mpr ⟨lwi_wsL_law_r35, List.forall_mem_append.mpr ⟨lwi_wsL_law_r36, List.forall_mem_append.mpr ⟨lwi_wsL_law_r37, List.forall_mem_append.mpr ⟨lwi_wsL_law_r38, List.forall_mem_append.mpr ⟨lwi_wsL_law_r39, List.forall_mem_append.mpr ⟨lwi_wsL_law_r40, List.forall_mem_append.mpr ⟨lwi_wsL_law_r41, List.forall_mem_append.mpr ⟨lwi_wsL_law_r42, List.forall_mem_append.mpr ⟨lwi_wsL_law_r43, List.forall_mem_append.mpr ⟨lwi_wsL_law_r44, List.forall_mem_append.mpr ⟨lwi_wsL_law_r45, List.forall_mem_append.mpr ⟨lwi_wsL_law_r46, List.forall_mem_append.mpr ⟨lwi_wsL_law_r47, List.forall_mem_append.mpr ⟨lwi_wsL_law_r48, List.forall_mem_append.mpr ⟨lwi_wsL_law_r49, List.forall_mem_append.mpr ⟨lwi_wsL_law_r50, List.forall_mem_append.mpr ⟨lwi_wsL_law_r51, List.forall_mem_append.mpr ⟨lwi_wsL_law_r52, List.forall_mem_append.mpr ⟨lwi_wsL_law_r53, List.forall_mem_append.mpr ⟨lwi_wsL_law_r54, List.forall_mem_append.mpr ⟨lwi_wsL_law_r55, List.forall_mem_append.mpr ⟨lwi_wsL_law_r56, List.forall_mem_append.mpr ⟨lwi_wsL_law_r57, List.forall_mem_append.mpr ⟨lwi_wsL_law_r58, List.forall_mem_append.mpr ⟨lwi_wsL_law_r59, List.forall_mem_append.mpr ⟨lwi_wsL_law_r60, List.forall_mem_append.mpr ⟨lwi_wsL_law_r61, List.forall_mem_append.mpr ⟨lwi_wsL_law_r62, List.forall_mem_append.mpr ⟨lwi_wsL_law_r63, List.forall_mem_append.mpr ⟨lwi_wsL_law_r64, List.forall_mem_append.mpr ⟨lwi_wsL_law_r65, lwi_wsL_law_r66⟩⟩⟩⟩⟩⟩⟩⟩⟩⟩⟩⟩⟩⟩⟩⟩⟩⟩⟩⟩⟩⟩⟩⟩⟩⟩⟩⟩⟩⟩⟩⟩⟩⟩⟩⟩⟩⟩⟩⟩⟩⟩⟩⟩⟩⟩⟩⟩⟩⟩⟩⟩⟩⟩⟩⟩⟩⟩⟩⟩⟩⟩⟩⟩⟩, lwi_wsX110⟩, lwi_wsX120⟩, lwi_wsX100⟩, lwi_wsX50⟩, lwi_wsX40⟩, lwi_wsX70⟩, lwi_wsX20⟩, lwi_wsX00⟩, lwi_wsX30⟩, lwi_wsX10⟩, lwi_wsX90⟩, lwi_wsX60⟩, lwi_wsX80⟩, (fun _ h => by cases h)⟩
set_option maxHeartbeats 8000000 in
set_option maxRecDepth 100000 in
theorem whole_start {p : Program} {e : Env} {s : State} {m : MethodId} {below : List Frame} {meth : Method} {c : Code} (l : Launch) (hflags : l.flags = flags0) {b L : Nat} {xs : Nat → Int32} (hM : L ≤ 3584) (C0 : lw_At p s m meth c b L xs) : W p l e room_1 s m #[Value.ref b] below meth c s.heap [] 0 0 (lw_Z below #[Value.ref b] s) (entryFrame m ([Value.ref b] : List Value).toArray 4) := by
  obtain ⟨hx, hb, hr, hml, hown, ht0, hX, hbl, hlocks, hgv⟩ := C0
  have hw : ∀ w ∈ wsL_law, w.before #[Value.ref b] s = true := fun w h => ht0 w (wsL_law_in w h)
  have hN : pq_N s := lw_N ht0
  obtain ⟨D, t, hK⟩ := lw_K hw hN.2
  obtain ⟨aK, aV, vF, hW0⟩ := lw_W (b := b) ht0 hgv
  have hts : ∀ w ∈ (Cond.initialized RX11 :: wsL_law), w.before #[Value.ref b] s = true := fun w h => (List.mem_cons.mp h).elim (fun q => q ▸ hw _ tw_2) (hw w)
  have hb : c.code = cL_law := hb
  have hown : s.vm.findClass RL = some m.cls := hown
  have hA : ∀ q : Nat, s.heap.size ≤ q → s.heap.size ≤ q := fun _ h => h
  have hS : va_S (fun q => s.heap.size ≤ q) s.heap s.heap [] := va_S.rf
  have hl := lv_entry ([.ref b]) (n := 4) (Nat.le_of_ble_eq_true rfl)
  rw [lg_entry_eq]
  generalize (lg_sl ([.ref b]) ++ List.replicate (4 - (lg_sl ([.ref b])).length) Slot.unset).toArray = ls at hl ⊢
  have hl : lv_has ls 4 [(0, .ref b)] := hl
  have hP : va_P D vwCl (pq_P t pq_S0 (fun _ _ => 0, fun _ _ => 0, fun _ _ => 0, fun _ _ => 0, fun _ _ => none)) s.heap := fun k q h => by cases h
  have hD : va_D (fun q => s.heap.size ≤ q) (pq_P t pq_S0 (fun _ _ => 0, fun _ _ => 0, fun _ _ => 0, fun _ _ => 0, fun _ _ => none)) := ⟨fun i j p q h => (by cases h), fun k q h => by cases h⟩
  refine va_new (C := RX11) (T := TX11) (N := 5) (ci := 11) (fs := pq_nf 11) hx hb hts (tw_i inlX11) tyX11 tyX11_ok hown (hts _ (tw_c tw_0)) (hts _ (tw_c tw_1)) (hts _ (tw_c tw_2)) hK hP hD hS hA rfl nf_11 (Nat.le_of_ble_eq_true rfl) (Nat.le_of_ble_eq_true rfl) dL_law_0 (fun this H hPn hDn hS => ?_)
  have hP : va_P D vwCl (pq_P t (pq_T1 this 11) (fun _ _ => 0, fun _ _ => 0, fun _ _ => 0, fun _ _ => 0, fun _ _ => none)) H := pq_new hPn
  have hD : va_D (fun q => s.heap.size ≤ q) (pq_P t (pq_T1 this 11) (fun _ _ => 0, fun _ _ => 0, fun _ _ => 0, fun _ _ => 0, fun _ _ => none)) := pq_newD hDn
  refine lv_dup hx hb dL_law_3 rfl ?_
  refine pk_v (va_runI (As := []) (rest := [.ref this]) ⟨hx, hb, hml, hown, hts⟩ (s_X11_init l D t (pq_T1 this 11) (fun _ _ => 0) (fun _ _ => 0) (fun _ _ => 0) (fun _ _ => 0) (fun _ _ => none) H.size this rfl rfl rfl rfl) (cwI 0 hts (tw_W tw_9) rfl rfl rfl (hts _ (tw_c tw_2)) (hts _ (tw_c tw_7)) (hts _ (tw_c tw_8)) rfl cd_yX11_init_0 ⟨Nat.le_of_ble_eq_true rfl, Nat.le_of_ble_eq_true rfl⟩) ⟨pq_blind, pq_pre hK hN hP hD⟩ rfl rfl hl.1 rfl (lv_room (Nat.le_of_ble_eq_true rfl)) dL_law_4 ⟨Nat.le_of_ble_eq_true rfl, Nat.le_of_ble_eq_true rfl⟩) hD hS hA (fun σ2 μ2 H locs hv hP hD hS => ?_)
  obtain ⟨σ, I, J, ri, rj, rq, tg, hu, hDN, hL_this, hK_this, -, hPX⟩ := hv
  obtain ⟨hua, hub⟩ := Prod.mk.inj hu
  rw [hua, hub] at hP hD
  refine lv_astore_n (lv' := [(1, .ref this), (0, .ref b)]) hx hb dL_law_7 rfl hl (by decide +kernel) rfl (fun ls hl => ?_)
  refine va_new (C := RX12) (T := TX12) (N := 31) (ci := 12) (fs := pq_nf 12) hx hb hts (tw_i inlX12) tyX12 tyX12_ok hown (hts _ (tw_c tw_3)) (hts _ (tw_c tw_4)) (hts _ (tw_c tw_5)) hK hP hD hS hA rfl nf_12 (Nat.le_of_ble_eq_true rfl) (Nat.le_of_ble_eq_true rfl) dL_law_8 (fun that H hPn hDn hS => ?_)
  have hP := pq_old hPn
  have hD := pq_oldD hDn
  have hP2 : va_P D vwCl (pq_P t (pq_T1 that 12) (fun _ _ => 0, fun _ _ => 0, fun _ _ => 0, fun _ _ => 0, fun _ _ => none)) H := pq_new hPn
  have hD2 : va_D (fun q => s.heap.size ≤ q) (pq_P t (pq_T1 that 12) (fun _ _ => 0, fun _ _ => 0, fun _ _ => 0, fun _ _ => 0, fun _ _ => none)) := pq_newD hDn
  have hap : that ∉ σ.1 := pq_apart hDn
  have hdis0 : ∀ a, a ∈ σ.1 → a ∉ (pq_T1 that 12).1 := fun a h1 h2 => hap ((List.mem_singleton.mp h2) ▸ h1)
  refine lv_dup hx hb dL_law_11 rfl ?_
  refine lk_v (va_runI (As := []) (rest := [.ref that]) ⟨hx, hb, hml, hown, hts⟩ (s_X12_init l D t (pq_T1 that 12) (fun _ _ => 0) (fun _ _ => 0) (fun _ _ => 0) (fun _ _ => 0) (fun _ _ => none) H.size that rfl rfl rfl rfl) (cwI 0 hts (tw_W tw_174) rfl rfl rfl (hts _ (tw_c tw_5)) (hts _ (tw_c tw_172)) (hts _ (tw_c tw_173)) rfl cd_yX12_init_0 ⟨Nat.le_of_ble_eq_true rfl, Nat.le_of_ble_eq_true rfl⟩) ⟨pq_blind, pq_pre hK hN hP2 hD2⟩ rfl rfl hl.1 rfl (lv_room (Nat.le_of_ble_eq_true rfl)) dL_law_12 ⟨Nat.le_of_ble_eq_true rfl, Nat.le_of_ble_eq_true rfl⟩) hD2 hS hA hP hdis0 (fun τ2 ν2 H locs hv hP2 hD2 hP hdis2 hS => ?_)
  obtain ⟨τ, I2, J2, si, sj, sq, tg2, hu2, hSH2, hG2, hL_that, hK_that, hrd2, hz2⟩ := hv
  obtain ⟨hu2a, hu2b⟩ := Prod.mk.inj hu2
  rw [hu2a, hu2b] at hP2 hD2
  rw [hu2a] at hdis2
  refine lv_astore_n (lv' := [(2, .ref that), (1, .ref this), (0, .ref b)]) hx hb dL_law_15 rfl hl (by decide +kernel) rfl (fun ls hl => ?_)
  refine lv_iconst (v := 0) hx hb dL_law_16 (by decide +kernel) ?_
  refine lv_istore_n (lv' := [(3, .int 0), (2, .ref that), (1, .ref this), (0, .ref b)]) hx hb dL_law_17 rfl hl (by decide +kernel) rfl (fun ls hl => ?_)
  obtain ⟨nw, kp, tr, hTR⟩ := tr6_of hDN.1 hDN.2.2 hL_this hK_this
  obtain ⟨va, hR_va, hL_va, hK_va, hN_va, hT_va⟩ := sh_a hSH2 384 (ci := 12) (kd := 13) (len := 12720) rfl (by decide +kernel) hL_that hK_that
  obtain ⟨vi, hR_vi, hL_vi, hK_vi, hN_vi, hT_vi⟩ := sh_a hSH2 385 (ci := 12) (kd := 13) (len := 12720) rfl (by decide +kernel) hL_that hK_that
  have z2 := hz2 va vi hR_va hR_vi
  have hRN : RSL (vI 10 σ nw I) (vR 10 σ nw ri) (vR 12 τ that si 384) := by
    rw [vr_row (Or.inl rfl) hR_va]
    exact rl_0 hDN hPX hTR.1.2.1 hTR.1.2.2 (fun j hj => (z2.1 j hj).1) z2.2.1
  have hRK : RSL (vI 10 σ kp I) (vR 10 σ kp ri) (vR 12 τ that si 385) := by
    rw [vr_row (Or.inr rfl) hR_vi]
    exact rl_0 hDN hPX hTR.2.1.2.1 hTR.2.1.2.2 (fun j hj => (z2.1 j hj).2) z2.2.2
  have hGN : GRV (vI 10 σ nw I) (vR 10 σ nw ri) (vL 10 σ nw rj) (vR 12 τ that si 384) := by
    rw [vr_row (Or.inl rfl) hR_va]
    exact grv_0 hDN (fun j hj => (z2.1 j hj).1)
  have hGK : GRV (vI 10 σ kp I) (vR 10 σ kp ri) (vL 10 σ kp rj) (vR 12 τ that si 385) := by
    rw [vr_row (Or.inr rfl) hR_vi]
    exact grv_0 hDN (fun j hj => (z2.1 j hj).2)
  have hDNd : RDF (vI 10 σ nw I) (vR 10 σ nw ri) (vR 12 τ that si 384) := by
    rw [vr_row (Or.inl rfl) hR_va]
    exact df_0 hDN hTR.1.2.1 hTR.1.2.2 (fun j hj => (z2.1 j hj).1)
  have hDKd : RDF (vI 10 σ kp I) (vR 10 σ kp ri) (vR 12 τ that si 385) := by
    rw [vr_row (Or.inr rfl) hR_vi]
    exact df_0 hDN hTR.2.1.2.1 hTR.2.1.2.2 (fun j hj => (z2.1 j hj).2)
  obtain ⟨rd, hR_rd, hL_rd, hK_rd⟩ := sh_o hDN.1 356 (ci := 11) (kd := 4) (ln := 0) rfl hL_this hK_this
  obtain ⟨vt, hR_vt, hL_vt, hK_vt, hN_vt, hT_vt⟩ := sh_a hSH2 387 (ci := 12) (kd := 13) (len := 300) rfl (by decide +kernel) hL_that hK_that
  have hRD : RDR (vI 4 σ rd I) (vR 4 σ rd ri) (vI 12 τ that I2) (vR 12 τ that si) := rdr_0 hDN hPX hL_rd hK_rd ((vI_at (by decide +kernel)).trans hrd2.1.1) ((vI_at (by decide +kernel)).trans hrd2.1.2.1) ((vI_at (by decide +kernel)).trans hrd2.1.2.2) (fun j => by rw [vR_at (by decide +kernel)]; exact hrd2.2 (vrow τ 387 that) ((vt_12 hSH2 hL_that hK_that).2.2 387 (by decide +kernel)).2.2 j)
  have hTN : TCR (vI 10 σ nw I) (vR 12 τ that si 384) := by
    rw [vr_row (Or.inl rfl) hR_va]
    exact tcr_0 hDN (fun j hj => (z2.1 j hj).1)
  have hTK : TCR (vI 10 σ kp I) (vR 12 τ that si 385) := by
    rw [vr_row (Or.inr rfl) hR_vi]
    exact tcr_0 hDN (fun j hj => (z2.1 j hj).2)
  exact lw_loop l hx hb hr hml hown hlocks hts xs hX hbl hM hK hN hW0 (L + 1) 0 0 _ _ H _ ls (by omega) (by omega) rfl (Nat.le_of_ble_eq_true rfl) (Nat.le_of_ble_eq_true rfl) ⟨σ, I, J, ri, rj, rq, tg, τ, I2, J2, si, sj, sq, tg2, nw, kp, tr, rd, ⟨hP, hD, hDN.1, DN_gs hDN, FJ_FI hDN.2.2, hL_this, hK_this⟩, ⟨hP2, hD2, hSH2, hG2, hL_that, hK_that⟩, fun a h1 h2 => hdis2 a h2 h1, hTR, aps_of hDN.1 hDN.2.2 hTR, hRN, hRK, hGN, hGK, hDNd, hDKd, ⟨hR_rd, hL_rd, hK_rd⟩, hRD, hTN, hTK, hS⟩ hl
