/-! ===== what a call wants to know of its callee ===== -/
theorem nec_RJ0 : RJ0 ≠ "java/lang/invoke/MethodHandle" ∧ RJ0 ≠ "java/lang/invoke/VarHandle" := by decide +kernel
theorem nec_RJ1 : RJ1 ≠ "java/lang/invoke/MethodHandle" ∧ RJ1 ≠ "java/lang/invoke/VarHandle" := by decide +kernel
theorem nec_RJ13 : RJ13 ≠ "java/lang/invoke/MethodHandle" ∧ RJ13 ≠ "java/lang/invoke/VarHandle" := by decide +kernel
theorem nec_RJ3 : RJ3 ≠ "java/lang/invoke/MethodHandle" ∧ RJ3 ≠ "java/lang/invoke/VarHandle" := by decide +kernel
theorem nec_RJ6 : RJ6 ≠ "java/lang/invoke/MethodHandle" ∧ RJ6 ≠ "java/lang/invoke/VarHandle" := by decide +kernel
theorem nec_RX0 : RX0 ≠ "java/lang/invoke/MethodHandle" ∧ RX0 ≠ "java/lang/invoke/VarHandle" := by decide +kernel
theorem nec_RX1 : RX1 ≠ "java/lang/invoke/MethodHandle" ∧ RX1 ≠ "java/lang/invoke/VarHandle" := by decide +kernel
theorem nec_RX10 : RX10 ≠ "java/lang/invoke/MethodHandle" ∧ RX10 ≠ "java/lang/invoke/VarHandle" := by decide +kernel
theorem nec_RX11 : RX11 ≠ "java/lang/invoke/MethodHandle" ∧ RX11 ≠ "java/lang/invoke/VarHandle" := by decide +kernel
theorem nec_RX12 : RX12 ≠ "java/lang/invoke/MethodHandle" ∧ RX12 ≠ "java/lang/invoke/VarHandle" := by decide +kernel
theorem nec_RX2 : RX2 ≠ "java/lang/invoke/MethodHandle" ∧ RX2 ≠ "java/lang/invoke/VarHandle" := by decide +kernel
theorem nec_RX3 : RX3 ≠ "java/lang/invoke/MethodHandle" ∧ RX3 ≠ "java/lang/invoke/VarHandle" := by decide +kernel
theorem nec_RX4 : RX4 ≠ "java/lang/invoke/MethodHandle" ∧ RX4 ≠ "java/lang/invoke/VarHandle" := by decide +kernel
theorem nec_RX5 : RX5 ≠ "java/lang/invoke/MethodHandle" ∧ RX5 ≠ "java/lang/invoke/VarHandle" := by decide +kernel
theorem nec_RX6 : RX6 ≠ "java/lang/invoke/MethodHandle" ∧ RX6 ≠ "java/lang/invoke/VarHandle" := by decide +kernel
theorem nec_RX7 : RX7 ≠ "java/lang/invoke/MethodHandle" ∧ RX7 ≠ "java/lang/invoke/VarHandle" := by decide +kernel
theorem nec_RX8 : RX8 ≠ "java/lang/invoke/MethodHandle" ∧ RX8 ≠ "java/lang/invoke/VarHandle" := by decide +kernel
theorem nec_RX9 : RX9 ≠ "java/lang/invoke/MethodHandle" ∧ RX9 ≠ "java/lang/invoke/VarHandle" := by decide +kernel
theorem cd_yX0_isOnRing_1 : yX0_isOnRing.cls ≠ "java/lang/invoke/MethodHandle" ∧ yX0_isOnRing.cls ≠ "java/lang/invoke/VarHandle" ∧ (parseMethodDescriptor yX0_isOnRing.desc).map (fun d => d.parameters.length) = some 1 := ⟨nec_RX0.1, nec_RX0.2, by decide +kernel⟩
theorem cd_yX11_copy_2 : yX11_copy.cls ≠ "java/lang/invoke/MethodHandle" ∧ yX11_copy.cls ≠ "java/lang/invoke/VarHandle" ∧ (parseMethodDescriptor yX11_copy.desc).map (fun d => d.parameters.length) = some 2 := ⟨nec_RX11.1, nec_RX11.2, by decide +kernel⟩
theorem cd_yX0_countAt_1 : yX0_countAt.cls ≠ "java/lang/invoke/MethodHandle" ∧ yX0_countAt.cls ≠ "java/lang/invoke/VarHandle" ∧ (parseMethodDescriptor yX0_countAt.desc).map (fun d => d.parameters.length) = some 1 := ⟨nec_RX0.1, nec_RX0.2, by decide +kernel⟩
theorem cd_yX9_isAt_1 : yX9_isAt.cls ≠ "java/lang/invoke/MethodHandle" ∧ yX9_isAt.cls ≠ "java/lang/invoke/VarHandle" ∧ (parseMethodDescriptor yX9_isAt.desc).map (fun d => d.parameters.length) = some 1 := ⟨nec_RX9.1, nec_RX9.2, by decide +kernel⟩
theorem cd_yX9_isSweet_1 : yX9_isSweet.cls ≠ "java/lang/invoke/MethodHandle" ∧ yX9_isSweet.cls ≠ "java/lang/invoke/VarHandle" ∧ (parseMethodDescriptor yX9_isSweet.desc).map (fun d => d.parameters.length) = some 1 := ⟨nec_RX9.1, nec_RX9.2, by decide +kernel⟩
theorem cd_yX2_sweetFrom_1 : yX2_sweetFrom.cls ≠ "java/lang/invoke/MethodHandle" ∧ yX2_sweetFrom.cls ≠ "java/lang/invoke/VarHandle" ∧ (parseMethodDescriptor yX2_sweetFrom.desc).map (fun d => d.parameters.length) = some 1 := ⟨nec_RX2.1, nec_RX2.2, by decide +kernel⟩
theorem cd_yX0_groupOf_1 : yX0_groupOf.cls ≠ "java/lang/invoke/MethodHandle" ∧ yX0_groupOf.cls ≠ "java/lang/invoke/VarHandle" ∧ (parseMethodDescriptor yX0_groupOf.desc).map (fun d => d.parameters.length) = some 1 := ⟨nec_RX0.1, nec_RX0.2, by decide +kernel⟩
theorem cd_yX11_hasBit_2 : yX11_hasBit.cls ≠ "java/lang/invoke/MethodHandle" ∧ yX11_hasBit.cls ≠ "java/lang/invoke/VarHandle" ∧ (parseMethodDescriptor yX11_hasBit.desc).map (fun d => d.parameters.length) = some 2 := ⟨nec_RX11.1, nec_RX11.2, by decide +kernel⟩
theorem cd_yX11_fill_2 : yX11_fill.cls ≠ "java/lang/invoke/MethodHandle" ∧ yX11_fill.cls ≠ "java/lang/invoke/VarHandle" ∧ (parseMethodDescriptor yX11_fill.desc).map (fun d => d.parameters.length) = some 2 := ⟨nec_RX11.1, nec_RX11.2, by decide +kernel⟩
theorem cd_yX9_copyFrom_1 : yX9_copyFrom.cls ≠ "java/lang/invoke/MethodHandle" ∧ yX9_copyFrom.cls ≠ "java/lang/invoke/VarHandle" ∧ (parseMethodDescriptor yX9_copyFrom.desc).map (fun d => d.parameters.length) = some 1 := ⟨nec_RX9.1, nec_RX9.2, by decide +kernel⟩
theorem cd_yX2_joinRing_2 : yX2_joinRing.cls ≠ "java/lang/invoke/MethodHandle" ∧ yX2_joinRing.cls ≠ "java/lang/invoke/VarHandle" ∧ (parseMethodDescriptor yX2_joinRing.desc).map (fun d => d.parameters.length) = some 2 := ⟨nec_RX2.1, nec_RX2.2, by decide +kernel⟩
theorem cd_yX2_topOf_1 : yX2_topOf.cls ≠ "java/lang/invoke/MethodHandle" ∧ yX2_topOf.cls ≠ "java/lang/invoke/VarHandle" ∧ (parseMethodDescriptor yX2_topOf.desc).map (fun d => d.parameters.length) = some 1 := ⟨nec_RX2.1, nec_RX2.2, by decide +kernel⟩
theorem cd_yX2_isDry_1 : yX2_isDry.cls ≠ "java/lang/invoke/MethodHandle" ∧ yX2_isDry.cls ≠ "java/lang/invoke/VarHandle" ∧ (parseMethodDescriptor yX2_isDry.desc).map (fun d => d.parameters.length) = some 1 := ⟨nec_RX2.1, nec_RX2.2, by decide +kernel⟩
theorem cd_yX2_measure_1 : yX2_measure.cls ≠ "java/lang/invoke/MethodHandle" ∧ yX2_measure.cls ≠ "java/lang/invoke/VarHandle" ∧ (parseMethodDescriptor yX2_measure.desc).map (fun d => d.parameters.length) = some 1 := ⟨nec_RX2.1, nec_RX2.2, by decide +kernel⟩
theorem cd_yX2_mark_3 : yX2_mark.cls ≠ "java/lang/invoke/MethodHandle" ∧ yX2_mark.cls ≠ "java/lang/invoke/VarHandle" ∧ (parseMethodDescriptor yX2_mark.desc).map (fun d => d.parameters.length) = some 3 := ⟨nec_RX2.1, nec_RX2.2, by decide +kernel⟩
theorem cd_yJ6_bitCount_0f7a4_1 : yJ6_bitCount_0f7a4.cls ≠ "java/lang/invoke/MethodHandle" ∧ yJ6_bitCount_0f7a4.cls ≠ "java/lang/invoke/VarHandle" ∧ (parseMethodDescriptor yJ6_bitCount_0f7a4.desc).map (fun d => d.parameters.length) = some 1 := ⟨nec_RJ6.1, nec_RJ6.2, by decide +kernel⟩
theorem cd_yX8_firstOf_1 : yX8_firstOf.cls ≠ "java/lang/invoke/MethodHandle" ∧ yX8_firstOf.cls ≠ "java/lang/invoke/VarHandle" ∧ (parseMethodDescriptor yX8_firstOf.desc).map (fun d => d.parameters.length) = some 1 := ⟨nec_RX8.1, nec_RX8.2, by decide +kernel⟩
theorem cd_yX3_textFor_2 : yX3_textFor.cls ≠ "java/lang/invoke/MethodHandle" ∧ yX3_textFor.cls ≠ "java/lang/invoke/VarHandle" ∧ (parseMethodDescriptor yX3_textFor.desc).map (fun d => d.parameters.length) = some 2 := ⟨nec_RX3.1, nec_RX3.2, by decide +kernel⟩
theorem cd_yX8_numberOf_2 : yX8_numberOf.cls ≠ "java/lang/invoke/MethodHandle" ∧ yX8_numberOf.cls ≠ "java/lang/invoke/VarHandle" ∧ (parseMethodDescriptor yX8_numberOf.desc).map (fun d => d.parameters.length) = some 2 := ⟨nec_RX8.1, nec_RX8.2, by decide +kernel⟩
theorem cd_yX3_numberIn_3 : yX3_numberIn.cls ≠ "java/lang/invoke/MethodHandle" ∧ yX3_numberIn.cls ≠ "java/lang/invoke/VarHandle" ∧ (parseMethodDescriptor yX3_numberIn.desc).map (fun d => d.parameters.length) = some 3 := ⟨nec_RX3.1, nec_RX3.2, by decide +kernel⟩
theorem cd_yX0_valueOf_3 : yX0_valueOf.cls ≠ "java/lang/invoke/MethodHandle" ∧ yX0_valueOf.cls ≠ "java/lang/invoke/VarHandle" ∧ (parseMethodDescriptor yX0_valueOf.desc).map (fun d => d.parameters.length) = some 3 := ⟨nec_RX0.1, nec_RX0.2, by decide +kernel⟩
theorem cd_yX8_work_3 : yX8_work.cls ≠ "java/lang/invoke/MethodHandle" ∧ yX8_work.cls ≠ "java/lang/invoke/VarHandle" ∧ (parseMethodDescriptor yX8_work.desc).map (fun d => d.parameters.length) = some 3 := ⟨nec_RX8.1, nec_RX8.2, by decide +kernel⟩
theorem cd_yX3_nameAll_4 : yX3_nameAll.cls ≠ "java/lang/invoke/MethodHandle" ∧ yX3_nameAll.cls ≠ "java/lang/invoke/VarHandle" ∧ (parseMethodDescriptor yX3_nameAll.desc).map (fun d => d.parameters.length) = some 4 := ⟨nec_RX3.1, nec_RX3.2, by decide +kernel⟩
theorem cd_yX8_firstSo_3 : yX8_firstSo.cls ≠ "java/lang/invoke/MethodHandle" ∧ yX8_firstSo.cls ≠ "java/lang/invoke/VarHandle" ∧ (parseMethodDescriptor yX8_firstSo.desc).map (fun d => d.parameters.length) = some 3 := ⟨nec_RX8.1, nec_RX8.2, by decide +kernel⟩
theorem cd_yX8_join_3 : yX8_join.cls ≠ "java/lang/invoke/MethodHandle" ∧ yX8_join.cls ≠ "java/lang/invoke/VarHandle" ∧ (parseMethodDescriptor yX8_join.desc).map (fun d => d.parameters.length) = some 3 := ⟨nec_RX8.1, nec_RX8.2, by decide +kernel⟩
theorem cd_yX7_isNumber_1 : yX7_isNumber.cls ≠ "java/lang/invoke/MethodHandle" ∧ yX7_isNumber.cls ≠ "java/lang/invoke/VarHandle" ∧ (parseMethodDescriptor yX7_isNumber.desc).map (fun d => d.parameters.length) = some 1 := ⟨nec_RX7.1, nec_RX7.2, by decide +kernel⟩
theorem cd_yX7_meanOfNumbers_2 : yX7_meanOfNumbers.cls ≠ "java/lang/invoke/MethodHandle" ∧ yX7_meanOfNumbers.cls ≠ "java/lang/invoke/VarHandle" ∧ (parseMethodDescriptor yX7_meanOfNumbers.desc).map (fun d => d.parameters.length) = some 2 := ⟨nec_RX7.1, nec_RX7.2, by decide +kernel⟩
theorem cd_yX7_known_3 : yX7_known.cls ≠ "java/lang/invoke/MethodHandle" ∧ yX7_known.cls ≠ "java/lang/invoke/VarHandle" ∧ (parseMethodDescriptor yX7_known.desc).map (fun d => d.parameters.length) = some 3 := ⟨nec_RX7.1, nec_RX7.2, by decide +kernel⟩
theorem cd_yX2_growReef_1 : yX2_growReef.cls ≠ "java/lang/invoke/MethodHandle" ∧ yX2_growReef.cls ≠ "java/lang/invoke/VarHandle" ∧ (parseMethodDescriptor yX2_growReef.desc).map (fun d => d.parameters.length) = some 1 := ⟨nec_RX2.1, nec_RX2.2, by decide +kernel⟩
theorem cd_yX2_walk_1 : yX2_walk.cls ≠ "java/lang/invoke/MethodHandle" ∧ yX2_walk.cls ≠ "java/lang/invoke/VarHandle" ∧ (parseMethodDescriptor yX2_walk.desc).map (fun d => d.parameters.length) = some 1 := ⟨nec_RX2.1, nec_RX2.2, by decide +kernel⟩
theorem cd_yX2_tide_3 : yX2_tide.cls ≠ "java/lang/invoke/MethodHandle" ∧ yX2_tide.cls ≠ "java/lang/invoke/VarHandle" ∧ (parseMethodDescriptor yX2_tide.desc).map (fun d => d.parameters.length) = some 3 := ⟨nec_RX2.1, nec_RX2.2, by decide +kernel⟩
theorem cd_yX2_giveUpBeds_0 : yX2_giveUpBeds.cls ≠ "java/lang/invoke/MethodHandle" ∧ yX2_giveUpBeds.cls ≠ "java/lang/invoke/VarHandle" ∧ (parseMethodDescriptor yX2_giveUpBeds.desc).map (fun d => d.parameters.length) = some 0 := ⟨nec_RX2.1, nec_RX2.2, by decide +kernel⟩
theorem cd_yX0_onRings_0 : yX0_onRings.cls ≠ "java/lang/invoke/MethodHandle" ∧ yX0_onRings.cls ≠ "java/lang/invoke/VarHandle" ∧ (parseMethodDescriptor yX0_onRings.desc).map (fun d => d.parameters.length) = some 0 := ⟨nec_RX0.1, nec_RX0.2, by decide +kernel⟩
theorem cd_yX10_nature_1 : yX10_nature.cls ≠ "java/lang/invoke/MethodHandle" ∧ yX10_nature.cls ≠ "java/lang/invoke/VarHandle" ∧ (parseMethodDescriptor yX10_nature.desc).map (fun d => d.parameters.length) = some 1 := ⟨nec_RX10.1, nec_RX10.2, by decide +kernel⟩
theorem cd_yX2_countBeds_2 : yX2_countBeds.cls ≠ "java/lang/invoke/MethodHandle" ∧ yX2_countBeds.cls ≠ "java/lang/invoke/VarHandle" ∧ (parseMethodDescriptor yX2_countBeds.desc).map (fun d => d.parameters.length) = some 2 := ⟨nec_RX2.1, nec_RX2.2, by decide +kernel⟩
theorem cd_yX3_whoIsSo_4 : yX3_whoIsSo.cls ≠ "java/lang/invoke/MethodHandle" ∧ yX3_whoIsSo.cls ≠ "java/lang/invoke/VarHandle" ∧ (parseMethodDescriptor yX3_whoIsSo.desc).map (fun d => d.parameters.length) = some 4 := ⟨nec_RX3.1, nec_RX3.2, by decide +kernel⟩
theorem cd_yX0_countGroups_1 : yX0_countGroups.cls ≠ "java/lang/invoke/MethodHandle" ∧ yX0_countGroups.cls ≠ "java/lang/invoke/VarHandle" ∧ (parseMethodDescriptor yX0_countGroups.desc).map (fun d => d.parameters.length) = some 1 := ⟨nec_RX0.1, nec_RX0.2, by decide +kernel⟩
theorem cd_yX0_takeLot_1 : yX0_takeLot.cls ≠ "java/lang/invoke/MethodHandle" ∧ yX0_takeLot.cls ≠ "java/lang/invoke/VarHandle" ∧ (parseMethodDescriptor yX0_takeLot.desc).map (fun d => d.parameters.length) = some 1 := ⟨nec_RX0.1, nec_RX0.2, by decide +kernel⟩
theorem cd_yX0_freeBeds_1 : yX0_freeBeds.cls ≠ "java/lang/invoke/MethodHandle" ∧ yX0_freeBeds.cls ≠ "java/lang/invoke/VarHandle" ∧ (parseMethodDescriptor yX0_freeBeds.desc).map (fun d => d.parameters.length) = some 1 := ⟨nec_RX0.1, nec_RX0.2, by decide +kernel⟩
theorem cd_yX5_lineUp_2 : yX5_lineUp.cls ≠ "java/lang/invoke/MethodHandle" ∧ yX5_lineUp.cls ≠ "java/lang/invoke/VarHandle" ∧ (parseMethodDescriptor yX5_lineUp.desc).map (fun d => d.parameters.length) = some 2 := ⟨nec_RX5.1, nec_RX5.2, by decide +kernel⟩
theorem cd_yX9_fillUp_3 : yX9_fillUp.cls ≠ "java/lang/invoke/MethodHandle" ∧ yX9_fillUp.cls ≠ "java/lang/invoke/VarHandle" ∧ (parseMethodDescriptor yX9_fillUp.desc).map (fun d => d.parameters.length) = some 3 := ⟨nec_RX9.1, nec_RX9.2, by decide +kernel⟩
theorem cd_yX0_drink_1 : yX0_drink.cls ≠ "java/lang/invoke/MethodHandle" ∧ yX0_drink.cls ≠ "java/lang/invoke/VarHandle" ∧ (parseMethodDescriptor yX0_drink.desc).map (fun d => d.parameters.length) = some 1 := ⟨nec_RX0.1, nec_RX0.2, by decide +kernel⟩
theorem cd_yX0_sleep_2 : yX0_sleep.cls ≠ "java/lang/invoke/MethodHandle" ∧ yX0_sleep.cls ≠ "java/lang/invoke/VarHandle" ∧ (parseMethodDescriptor yX0_sleep.desc).map (fun d => d.parameters.length) = some 2 := ⟨nec_RX0.1, nec_RX0.2, by decide +kernel⟩
theorem cd_yX0_board_5 : yX0_board.cls ≠ "java/lang/invoke/MethodHandle" ∧ yX0_board.cls ≠ "java/lang/invoke/VarHandle" ∧ (parseMethodDescriptor yX0_board.desc).map (fun d => d.parameters.length) = some 5 := ⟨nec_RX0.1, nec_RX0.2, by decide +kernel⟩
theorem cd_yX5_swap_2 : yX5_swap.cls ≠ "java/lang/invoke/MethodHandle" ∧ yX5_swap.cls ≠ "java/lang/invoke/VarHandle" ∧ (parseMethodDescriptor yX5_swap.desc).map (fun d => d.parameters.length) = some 2 := ⟨nec_RX5.1, nec_RX5.2, by decide +kernel⟩
theorem cd_yX5_foresee_3 : yX5_foresee.cls ≠ "java/lang/invoke/MethodHandle" ∧ yX5_foresee.cls ≠ "java/lang/invoke/VarHandle" ∧ (parseMethodDescriptor yX5_foresee.desc).map (fun d => d.parameters.length) = some 3 := ⟨nec_RX5.1, nec_RX5.2, by decide +kernel⟩
theorem cd_yX5_lacksOf_3 : yX5_lacksOf.cls ≠ "java/lang/invoke/MethodHandle" ∧ yX5_lacksOf.cls ≠ "java/lang/invoke/VarHandle" ∧ (parseMethodDescriptor yX5_lacksOf.desc).map (fun d => d.parameters.length) = some 3 := ⟨nec_RX5.1, nec_RX5.2, by decide +kernel⟩
theorem cd_yX5_toNextOrder_1 : yX5_toNextOrder.cls ≠ "java/lang/invoke/MethodHandle" ∧ yX5_toNextOrder.cls ≠ "java/lang/invoke/VarHandle" ∧ (parseMethodDescriptor yX5_toNextOrder.desc).map (fun d => d.parameters.length) = some 1 := ⟨nec_RX5.1, nec_RX5.2, by decide +kernel⟩
theorem cd_yX6_isDigit_1 : yX6_isDigit.cls ≠ "java/lang/invoke/MethodHandle" ∧ yX6_isDigit.cls ≠ "java/lang/invoke/VarHandle" ∧ (parseMethodDescriptor yX6_isDigit.desc).map (fun d => d.parameters.length) = some 1 := ⟨nec_RX6.1, nec_RX6.2, by decide +kernel⟩
theorem cd_yX7_copyFrom_1 : yX7_copyFrom.cls ≠ "java/lang/invoke/MethodHandle" ∧ yX7_copyFrom.cls ≠ "java/lang/invoke/VarHandle" ∧ (parseMethodDescriptor yX7_copyFrom.desc).map (fun d => d.parameters.length) = some 1 := ⟨nec_RX7.1, nec_RX7.2, by decide +kernel⟩
theorem cd_yX2_copyFrom_1 : yX2_copyFrom.cls ≠ "java/lang/invoke/MethodHandle" ∧ yX2_copyFrom.cls ≠ "java/lang/invoke/VarHandle" ∧ (parseMethodDescriptor yX2_copyFrom.desc).map (fun d => d.parameters.length) = some 1 := ⟨nec_RX2.1, nec_RX2.2, by decide +kernel⟩
theorem cd_yX0_copyFrom_1 : yX0_copyFrom.cls ≠ "java/lang/invoke/MethodHandle" ∧ yX0_copyFrom.cls ≠ "java/lang/invoke/VarHandle" ∧ (parseMethodDescriptor yX0_copyFrom.desc).map (fun d => d.parameters.length) = some 1 := ⟨nec_RX0.1, nec_RX0.2, by decide +kernel⟩
theorem cd_yX3_copyFrom_1 : yX3_copyFrom.cls ≠ "java/lang/invoke/MethodHandle" ∧ yX3_copyFrom.cls ≠ "java/lang/invoke/VarHandle" ∧ (parseMethodDescriptor yX3_copyFrom.desc).map (fun d => d.parameters.length) = some 1 := ⟨nec_RX3.1, nec_RX3.2, by decide +kernel⟩
theorem cd_yX1_copyFrom_1 : yX1_copyFrom.cls ≠ "java/lang/invoke/MethodHandle" ∧ yX1_copyFrom.cls ≠ "java/lang/invoke/VarHandle" ∧ (parseMethodDescriptor yX1_copyFrom.desc).map (fun d => d.parameters.length) = some 1 := ⟨nec_RX1.1, nec_RX1.2, by decide +kernel⟩
theorem cd_yX3_fixIn_1 : yX3_fixIn.cls ≠ "java/lang/invoke/MethodHandle" ∧ yX3_fixIn.cls ≠ "java/lang/invoke/VarHandle" ∧ (parseMethodDescriptor yX3_fixIn.desc).map (fun d => d.parameters.length) = some 1 := ⟨nec_RX3.1, nec_RX3.2, by decide +kernel⟩
theorem cd_yX2_countArea_2 : yX2_countArea.cls ≠ "java/lang/invoke/MethodHandle" ∧ yX2_countArea.cls ≠ "java/lang/invoke/VarHandle" ∧ (parseMethodDescriptor yX2_countArea.desc).map (fun d => d.parameters.length) = some 2 := ⟨nec_RX2.1, nec_RX2.2, by decide +kernel⟩
theorem cd_yX0_sendings_0 : yX0_sendings.cls ≠ "java/lang/invoke/MethodHandle" ∧ yX0_sendings.cls ≠ "java/lang/invoke/VarHandle" ∧ (parseMethodDescriptor yX0_sendings.desc).map (fun d => d.parameters.length) = some 0 := ⟨nec_RX0.1, nec_RX0.2, by decide +kernel⟩
theorem cd_yX3_leaveIn_1 : yX3_leaveIn.cls ≠ "java/lang/invoke/MethodHandle" ∧ yX3_leaveIn.cls ≠ "java/lang/invoke/VarHandle" ∧ (parseMethodDescriptor yX3_leaveIn.desc).map (fun d => d.parameters.length) = some 1 := ⟨nec_RX3.1, nec_RX3.2, by decide +kernel⟩
theorem cd_yX2_countWalls_0 : yX2_countWalls.cls ≠ "java/lang/invoke/MethodHandle" ∧ yX2_countWalls.cls ≠ "java/lang/invoke/VarHandle" ∧ (parseMethodDescriptor yX2_countWalls.desc).map (fun d => d.parameters.length) = some 0 := ⟨nec_RX2.1, nec_RX2.2, by decide +kernel⟩
theorem cd_yJ6_compare_7cf53_2 : yJ6_compare_7cf53.cls ≠ "java/lang/invoke/MethodHandle" ∧ yJ6_compare_7cf53.cls ≠ "java/lang/invoke/VarHandle" ∧ (parseMethodDescriptor yJ6_compare_7cf53.desc).map (fun d => d.parameters.length) = some 2 := ⟨nec_RJ6.1, nec_RJ6.2, by decide +kernel⟩
theorem cd_yX8_isAhead_4 : yX8_isAhead.cls ≠ "java/lang/invoke/MethodHandle" ∧ yX8_isAhead.cls ≠ "java/lang/invoke/VarHandle" ∧ (parseMethodDescriptor yX8_isAhead.desc).map (fun d => d.parameters.length) = some 4 := ⟨nec_RX8.1, nec_RX8.2, by decide +kernel⟩
theorem cd_yX10_reckon_0 : yX10_reckon.cls ≠ "java/lang/invoke/MethodHandle" ∧ yX10_reckon.cls ≠ "java/lang/invoke/VarHandle" ∧ (parseMethodDescriptor yX10_reckon.desc).map (fun d => d.parameters.length) = some 0 := ⟨nec_RX10.1, nec_RX10.2, by decide +kernel⟩
theorem cd_yX3_line_4 : yX3_line.cls ≠ "java/lang/invoke/MethodHandle" ∧ yX3_line.cls ≠ "java/lang/invoke/VarHandle" ∧ (parseMethodDescriptor yX3_line.desc).map (fun d => d.parameters.length) = some 4 := ⟨nec_RX3.1, nec_RX3.2, by decide +kernel⟩
theorem cd_yX10_wasDry_1 : yX10_wasDry.cls ≠ "java/lang/invoke/MethodHandle" ∧ yX10_wasDry.cls ≠ "java/lang/invoke/VarHandle" ∧ (parseMethodDescriptor yX10_wasDry.desc).map (fun d => d.parameters.length) = some 1 := ⟨nec_RX10.1, nec_RX10.2, by decide +kernel⟩
theorem cd_yX3_lastsFor_4 : yX3_lastsFor.cls ≠ "java/lang/invoke/MethodHandle" ∧ yX3_lastsFor.cls ≠ "java/lang/invoke/VarHandle" ∧ (parseMethodDescriptor yX3_lastsFor.desc).map (fun d => d.parameters.length) = some 4 := ⟨nec_RX3.1, nec_RX3.2, by decide +kernel⟩
theorem cd_yX0_notDead_0 : yX0_notDead.cls ≠ "java/lang/invoke/MethodHandle" ∧ yX0_notDead.cls ≠ "java/lang/invoke/VarHandle" ∧ (parseMethodDescriptor yX0_notDead.desc).map (fun d => d.parameters.length) = some 0 := ⟨nec_RX0.1, nec_RX0.2, by decide +kernel⟩
theorem cd_yX3_councilIn_1 : yX3_councilIn.cls ≠ "java/lang/invoke/MethodHandle" ∧ yX3_councilIn.cls ≠ "java/lang/invoke/VarHandle" ∧ (parseMethodDescriptor yX3_councilIn.desc).map (fun d => d.parameters.length) = some 1 := ⟨nec_RX3.1, nec_RX3.2, by decide +kernel⟩
theorem cd_yX0_countVotes_2 : yX0_countVotes.cls ≠ "java/lang/invoke/MethodHandle" ∧ yX0_countVotes.cls ≠ "java/lang/invoke/VarHandle" ∧ (parseMethodDescriptor yX0_countVotes.desc).map (fun d => d.parameters.length) = some 2 := ⟨nec_RX0.1, nec_RX0.2, by decide +kernel⟩
theorem cd_yX11_isRing_1 : yX11_isRing.cls ≠ "java/lang/invoke/MethodHandle" ∧ yX11_isRing.cls ≠ "java/lang/invoke/VarHandle" ∧ (parseMethodDescriptor yX11_isRing.desc).map (fun d => d.parameters.length) = some 1 := ⟨nec_RX11.1, nec_RX11.2, by decide +kernel⟩
theorem cd_yX2_addCell_6 : yX2_addCell.cls ≠ "java/lang/invoke/MethodHandle" ∧ yX2_addCell.cls ≠ "java/lang/invoke/VarHandle" ∧ (parseMethodDescriptor yX2_addCell.desc).map (fun d => d.parameters.length) = some 6 := ⟨nec_RX2.1, nec_RX2.2, by decide +kernel⟩
theorem cd_yJ13_bitCount_95d88_1 : yJ13_bitCount_95d88.cls ≠ "java/lang/invoke/MethodHandle" ∧ yJ13_bitCount_95d88.cls ≠ "java/lang/invoke/VarHandle" ∧ (parseMethodDescriptor yJ13_bitCount_95d88.desc).map (fun d => d.parameters.length) = some 1 := ⟨nec_RJ13.1, nec_RJ13.2, by decide +kernel⟩
theorem cd_yX11_between_3 : yX11_between.cls ≠ "java/lang/invoke/MethodHandle" ∧ yX11_between.cls ≠ "java/lang/invoke/VarHandle" ∧ (parseMethodDescriptor yX11_between.desc).map (fun d => d.parameters.length) = some 3 := ⟨nec_RX11.1, nec_RX11.2, by decide +kernel⟩
theorem cd_yX7_tell_4 : yX7_tell.cls ≠ "java/lang/invoke/MethodHandle" ∧ yX7_tell.cls ≠ "java/lang/invoke/VarHandle" ∧ (parseMethodDescriptor yX7_tell.desc).map (fun d => d.parameters.length) = some 4 := ⟨nec_RX7.1, nec_RX7.2, by decide +kernel⟩
theorem cd_yX11_isCell_1 : yX11_isCell.cls ≠ "java/lang/invoke/MethodHandle" ∧ yX11_isCell.cls ≠ "java/lang/invoke/VarHandle" ∧ (parseMethodDescriptor yX11_isCell.desc).map (fun d => d.parameters.length) = some 1 := ⟨nec_RX11.1, nec_RX11.2, by decide +kernel⟩
theorem cd_yX9_dig_4 : yX9_dig.cls ≠ "java/lang/invoke/MethodHandle" ∧ yX9_dig.cls ≠ "java/lang/invoke/VarHandle" ∧ (parseMethodDescriptor yX9_dig.desc).map (fun d => d.parameters.length) = some 4 := ⟨nec_RX9.1, nec_RX9.2, by decide +kernel⟩
theorem cd_yX11_isRise_1 : yX11_isRise.cls ≠ "java/lang/invoke/MethodHandle" ∧ yX11_isRise.cls ≠ "java/lang/invoke/VarHandle" ∧ (parseMethodDescriptor yX11_isRise.desc).map (fun d => d.parameters.length) = some 1 := ⟨nec_RX11.1, nec_RX11.2, by decide +kernel⟩
theorem cd_yX11_isMonth_1 : yX11_isMonth.cls ≠ "java/lang/invoke/MethodHandle" ∧ yX11_isMonth.cls ≠ "java/lang/invoke/VarHandle" ∧ (parseMethodDescriptor yX11_isMonth.desc).map (fun d => d.parameters.length) = some 1 := ⟨nec_RX11.1, nec_RX11.2, by decide +kernel⟩
theorem cd_yX0_addPerson_5 : yX0_addPerson.cls ≠ "java/lang/invoke/MethodHandle" ∧ yX0_addPerson.cls ≠ "java/lang/invoke/VarHandle" ∧ (parseMethodDescriptor yX0_addPerson.desc).map (fun d => d.parameters.length) = some 5 := ⟨nec_RX0.1, nec_RX0.2, by decide +kernel⟩
theorem cd_yX11_isPerson_1 : yX11_isPerson.cls ≠ "java/lang/invoke/MethodHandle" ∧ yX11_isPerson.cls ≠ "java/lang/invoke/VarHandle" ∧ (parseMethodDescriptor yX11_isPerson.desc).map (fun d => d.parameters.length) = some 1 := ⟨nec_RX11.1, nec_RX11.2, by decide +kernel⟩
theorem cd_yX11_isLot_1 : yX11_isLot.cls ≠ "java/lang/invoke/MethodHandle" ∧ yX11_isLot.cls ≠ "java/lang/invoke/VarHandle" ∧ (parseMethodDescriptor yX11_isLot.desc).map (fun d => d.parameters.length) = some 1 := ⟨nec_RX11.1, nec_RX11.2, by decide +kernel⟩
theorem cd_yX10_heirOf_1 : yX10_heirOf.cls ≠ "java/lang/invoke/MethodHandle" ∧ yX10_heirOf.cls ≠ "java/lang/invoke/VarHandle" ∧ (parseMethodDescriptor yX10_heirOf.desc).map (fun d => d.parameters.length) = some 1 := ⟨nec_RX10.1, nec_RX10.2, by decide +kernel⟩
theorem cd_yX10_passTitles_2 : yX10_passTitles.cls ≠ "java/lang/invoke/MethodHandle" ∧ yX10_passTitles.cls ≠ "java/lang/invoke/VarHandle" ∧ (parseMethodDescriptor yX10_passTitles.desc).map (fun d => d.parameters.length) = some 2 := ⟨nec_RX10.1, nec_RX10.2, by decide +kernel⟩
theorem cd_yX10_titleStands_1 : yX10_titleStands.cls ≠ "java/lang/invoke/MethodHandle" ∧ yX10_titleStands.cls ≠ "java/lang/invoke/VarHandle" ∧ (parseMethodDescriptor yX10_titleStands.desc).map (fun d => d.parameters.length) = some 1 := ⟨nec_RX10.1, nec_RX10.2, by decide +kernel⟩
theorem cd_yX10_decide_1 : yX10_decide.cls ≠ "java/lang/invoke/MethodHandle" ∧ yX10_decide.cls ≠ "java/lang/invoke/VarHandle" ∧ (parseMethodDescriptor yX10_decide.desc).map (fun d => d.parameters.length) = some 1 := ⟨nec_RX10.1, nec_RX10.2, by decide +kernel⟩
theorem cd_yX6_append_1 : yX6_append.cls ≠ "java/lang/invoke/MethodHandle" ∧ yX6_append.cls ≠ "java/lang/invoke/VarHandle" ∧ (parseMethodDescriptor yX6_append.desc).map (fun d => d.parameters.length) = some 1 := ⟨nec_RX6.1, nec_RX6.2, by decide +kernel⟩
theorem cd_yX3_addForce_3 : yX3_addForce.cls ≠ "java/lang/invoke/MethodHandle" ∧ yX3_addForce.cls ≠ "java/lang/invoke/VarHandle" ∧ (parseMethodDescriptor yX3_addForce.desc).map (fun d => d.parameters.length) = some 3 := ⟨nec_RX3.1, nec_RX3.2, by decide +kernel⟩
theorem cd_yX3_clauseBy_4 : yX3_clauseBy.cls ≠ "java/lang/invoke/MethodHandle" ∧ yX3_clauseBy.cls ≠ "java/lang/invoke/VarHandle" ∧ (parseMethodDescriptor yX3_clauseBy.desc).map (fun d => d.parameters.length) = some 4 := ⟨nec_RX3.1, nec_RX3.2, by decide +kernel⟩
theorem cd_yX11_canGoBy_3 : yX11_canGoBy.cls ≠ "java/lang/invoke/MethodHandle" ∧ yX11_canGoBy.cls ≠ "java/lang/invoke/VarHandle" ∧ (parseMethodDescriptor yX11_canGoBy.desc).map (fun d => d.parameters.length) = some 3 := ⟨nec_RX11.1, nec_RX11.2, by decide +kernel⟩
theorem cd_yX10_goBy_1 : yX10_goBy.cls ≠ "java/lang/invoke/MethodHandle" ∧ yX10_goBy.cls ≠ "java/lang/invoke/VarHandle" ∧ (parseMethodDescriptor yX10_goBy.desc).map (fun d => d.parameters.length) = some 1 := ⟨nec_RX10.1, nec_RX10.2, by decide +kernel⟩
theorem cd_yX10_copyFrom_1 : yX10_copyFrom.cls ≠ "java/lang/invoke/MethodHandle" ∧ yX10_copyFrom.cls ≠ "java/lang/invoke/VarHandle" ∧ (parseMethodDescriptor yX10_copyFrom.desc).map (fun d => d.parameters.length) = some 1 := ⟨nec_RX10.1, nec_RX10.2, by decide +kernel⟩
theorem cd_yX10_sandBehind_2 : yX10_sandBehind.cls ≠ "java/lang/invoke/MethodHandle" ∧ yX10_sandBehind.cls ≠ "java/lang/invoke/VarHandle" ∧ (parseMethodDescriptor yX10_sandBehind.desc).map (fun d => d.parameters.length) = some 2 := ⟨nec_RX10.1, nec_RX10.2, by decide +kernel⟩
theorem cd_yX5_seek_4 : yX5_seek.cls ≠ "java/lang/invoke/MethodHandle" ∧ yX5_seek.cls ≠ "java/lang/invoke/VarHandle" ∧ (parseMethodDescriptor yX5_seek.desc).map (fun d => d.parameters.length) = some 4 := ⟨nec_RX5.1, nec_RX5.2, by decide +kernel⟩
theorem cd_yX10_wasRock_1 : yX10_wasRock.cls ≠ "java/lang/invoke/MethodHandle" ∧ yX10_wasRock.cls ≠ "java/lang/invoke/VarHandle" ∧ (parseMethodDescriptor yX10_wasRock.desc).map (fun d => d.parameters.length) = some 1 := ⟨nec_RX10.1, nec_RX10.2, by decide +kernel⟩
theorem cd_yX11_sum_2 : yX11_sum.cls ≠ "java/lang/invoke/MethodHandle" ∧ yX11_sum.cls ≠ "java/lang/invoke/VarHandle" ∧ (parseMethodDescriptor yX11_sum.desc).map (fun d => d.parameters.length) = some 2 := ⟨nec_RX11.1, nec_RX11.2, by decide +kernel⟩
theorem cd_yX1_dig_1 : yX1_dig.cls ≠ "java/lang/invoke/MethodHandle" ∧ yX1_dig.cls ≠ "java/lang/invoke/VarHandle" ∧ (parseMethodDescriptor yX1_dig.desc).map (fun d => d.parameters.length) = some 1 := ⟨nec_RX1.1, nec_RX1.2, by decide +kernel⟩
theorem cd_yX1_carry_2 : yX1_carry.cls ≠ "java/lang/invoke/MethodHandle" ∧ yX1_carry.cls ≠ "java/lang/invoke/VarHandle" ∧ (parseMethodDescriptor yX1_carry.desc).map (fun d => d.parameters.length) = some 2 := ⟨nec_RX1.1, nec_RX1.2, by decide +kernel⟩
theorem cd_yX1_whereNow_2 : yX1_whereNow.cls ≠ "java/lang/invoke/MethodHandle" ∧ yX1_whereNow.cls ≠ "java/lang/invoke/VarHandle" ∧ (parseMethodDescriptor yX1_whereNow.desc).map (fun d => d.parameters.length) = some 2 := ⟨nec_RX1.1, nec_RX1.2, by decide +kernel⟩
theorem cd_yJ0_coder_7d493_0 : yJ0_coder_7d493.cls ≠ "java/lang/invoke/MethodHandle" ∧ yJ0_coder_7d493.cls ≠ "java/lang/invoke/VarHandle" ∧ (parseMethodDescriptor yJ0_coder_7d493.desc).map (fun d => d.parameters.length) = some 0 := ⟨nec_RJ0.1, nec_RJ0.2, by decide +kernel⟩
theorem cd_yJ0_isLatin1_aae02_0 : yJ0_isLatin1_aae02.cls ≠ "java/lang/invoke/MethodHandle" ∧ yJ0_isLatin1_aae02.cls ≠ "java/lang/invoke/VarHandle" ∧ (parseMethodDescriptor yJ0_isLatin1_aae02.desc).map (fun d => d.parameters.length) = some 0 := ⟨nec_RJ0.1, nec_RJ0.2, by decide +kernel⟩
theorem cd_yJ3_checkIndex_8e157_3 : yJ3_checkIndex_8e157.cls ≠ "java/lang/invoke/MethodHandle" ∧ yJ3_checkIndex_8e157.cls ≠ "java/lang/invoke/VarHandle" ∧ (parseMethodDescriptor yJ3_checkIndex_8e157.desc).map (fun d => d.parameters.length) = some 3 := ⟨nec_RJ3.1, nec_RJ3.2, by decide +kernel⟩
theorem cd_yJ0_checkIndex_df160_2 : yJ0_checkIndex_df160.cls ≠ "java/lang/invoke/MethodHandle" ∧ yJ0_checkIndex_df160.cls ≠ "java/lang/invoke/VarHandle" ∧ (parseMethodDescriptor yJ0_checkIndex_df160.desc).map (fun d => d.parameters.length) = some 2 := ⟨nec_RJ0.1, nec_RJ0.2, by decide +kernel⟩
theorem cd_yJ1_charAt_3b067_2 : yJ1_charAt_3b067.cls ≠ "java/lang/invoke/MethodHandle" ∧ yJ1_charAt_3b067.cls ≠ "java/lang/invoke/VarHandle" ∧ (parseMethodDescriptor yJ1_charAt_3b067.desc).map (fun d => d.parameters.length) = some 2 := ⟨nec_RJ1.1, nec_RJ1.2, by decide +kernel⟩
theorem cd_yJ0_length_8abf5_0 : yJ0_length_8abf5.cls ≠ "java/lang/invoke/MethodHandle" ∧ yJ0_length_8abf5.cls ≠ "java/lang/invoke/VarHandle" ∧ (parseMethodDescriptor yJ0_length_8abf5.desc).map (fun d => d.parameters.length) = some 0 := ⟨nec_RJ0.1, nec_RJ0.2, by decide +kernel⟩
theorem cd_yJ0_charAt_5068e_1 : yJ0_charAt_5068e.cls ≠ "java/lang/invoke/MethodHandle" ∧ yJ0_charAt_5068e.cls ≠ "java/lang/invoke/VarHandle" ∧ (parseMethodDescriptor yJ0_charAt_5068e.desc).map (fun d => d.parameters.length) = some 1 := ⟨nec_RJ0.1, nec_RJ0.2, by decide +kernel⟩
theorem cd_yX6_takeLonger_0 : yX6_takeLonger.cls ≠ "java/lang/invoke/MethodHandle" ∧ yX6_takeLonger.cls ≠ "java/lang/invoke/VarHandle" ∧ (parseMethodDescriptor yX6_takeLonger.desc).map (fun d => d.parameters.length) = some 0 := ⟨nec_RX6.1, nec_RX6.2, by decide +kernel⟩
theorem cd_yX6_takeWord_0 : yX6_takeWord.cls ≠ "java/lang/invoke/MethodHandle" ∧ yX6_takeWord.cls ≠ "java/lang/invoke/VarHandle" ∧ (parseMethodDescriptor yX6_takeWord.desc).map (fun d => d.parameters.length) = some 0 := ⟨nec_RX6.1, nec_RX6.2, by decide +kernel⟩
theorem cd_yX6_takeNumber_0 : yX6_takeNumber.cls ≠ "java/lang/invoke/MethodHandle" ∧ yX6_takeNumber.cls ≠ "java/lang/invoke/VarHandle" ∧ (parseMethodDescriptor yX6_takeNumber.desc).map (fun d => d.parameters.length) = some 0 := ⟨nec_RX6.1, nec_RX6.2, by decide +kernel⟩
theorem cd_yX6_isLetter_1 : yX6_isLetter.cls ≠ "java/lang/invoke/MethodHandle" ∧ yX6_isLetter.cls ≠ "java/lang/invoke/VarHandle" ∧ (parseMethodDescriptor yX6_isLetter.desc).map (fun d => d.parameters.length) = some 1 := ⟨nec_RX6.1, nec_RX6.2, by decide +kernel⟩
theorem cd_yX6_signOf_1 : yX6_signOf.cls ≠ "java/lang/invoke/MethodHandle" ∧ yX6_signOf.cls ≠ "java/lang/invoke/VarHandle" ∧ (parseMethodDescriptor yX6_signOf.desc).map (fun d => d.parameters.length) = some 1 := ⟨nec_RX6.1, nec_RX6.2, by decide +kernel⟩
theorem cd_yX4_await_1 : yX4_await.cls ≠ "java/lang/invoke/MethodHandle" ∧ yX4_await.cls ≠ "java/lang/invoke/VarHandle" ∧ (parseMethodDescriptor yX4_await.desc).map (fun d => d.parameters.length) = some 1 := ⟨nec_RX4.1, nec_RX4.2, by decide +kernel⟩
theorem cd_yX4_refuse_1 : yX4_refuse.cls ≠ "java/lang/invoke/MethodHandle" ∧ yX4_refuse.cls ≠ "java/lang/invoke/VarHandle" ∧ (parseMethodDescriptor yX4_refuse.desc).map (fun d => d.parameters.length) = some 1 := ⟨nec_RX4.1, nec_RX4.2, by decide +kernel⟩
theorem cd_yX4_openUp_1 : yX4_openUp.cls ≠ "java/lang/invoke/MethodHandle" ∧ yX4_openUp.cls ≠ "java/lang/invoke/VarHandle" ∧ (parseMethodDescriptor yX4_openUp.desc).map (fun d => d.parameters.length) = some 1 := ⟨nec_RX4.1, nec_RX4.2, by decide +kernel⟩
theorem cd_yX4_emit_1 : yX4_emit.cls ≠ "java/lang/invoke/MethodHandle" ∧ yX4_emit.cls ≠ "java/lang/invoke/VarHandle" ∧ (parseMethodDescriptor yX4_emit.desc).map (fun d => d.parameters.length) = some 1 := ⟨nec_RX4.1, nec_RX4.2, by decide +kernel⟩
theorem cd_yX4_settle_1 : yX4_settle.cls ≠ "java/lang/invoke/MethodHandle" ∧ yX4_settle.cls ≠ "java/lang/invoke/VarHandle" ∧ (parseMethodDescriptor yX4_settle.desc).map (fun d => d.parameters.length) = some 1 := ⟨nec_RX4.1, nec_RX4.2, by decide +kernel⟩
theorem cd_yX6_advance_0 : yX6_advance.cls ≠ "java/lang/invoke/MethodHandle" ∧ yX6_advance.cls ≠ "java/lang/invoke/VarHandle" ∧ (parseMethodDescriptor yX6_advance.desc).map (fun d => d.parameters.length) = some 0 := ⟨nec_RX6.1, nec_RX6.2, by decide +kernel⟩
theorem cd_yX4_readBehindOne_0 : yX4_readBehindOne.cls ≠ "java/lang/invoke/MethodHandle" ∧ yX4_readBehindOne.cls ≠ "java/lang/invoke/VarHandle" ∧ (parseMethodDescriptor yX4_readBehindOne.desc).map (fun d => d.parameters.length) = some 0 := ⟨nec_RX4.1, nec_RX4.2, by decide +kernel⟩
theorem cd_yX4_readOne_0 : yX4_readOne.cls ≠ "java/lang/invoke/MethodHandle" ∧ yX4_readOne.cls ≠ "java/lang/invoke/VarHandle" ∧ (parseMethodDescriptor yX4_readOne.desc).map (fun d => d.parameters.length) = some 0 := ⟨nec_RX4.1, nec_RX4.2, by decide +kernel⟩
theorem cd_yX4_expectSemicolon_0 : yX4_expectSemicolon.cls ≠ "java/lang/invoke/MethodHandle" ∧ yX4_expectSemicolon.cls ≠ "java/lang/invoke/VarHandle" ∧ (parseMethodDescriptor yX4_expectSemicolon.desc).map (fun d => d.parameters.length) = some 0 := ⟨nec_RX4.1, nec_RX4.2, by decide +kernel⟩
theorem cd_yX4_readKey_1 : yX4_readKey.cls ≠ "java/lang/invoke/MethodHandle" ∧ yX4_readKey.cls ≠ "java/lang/invoke/VarHandle" ∧ (parseMethodDescriptor yX4_readKey.desc).map (fun d => d.parameters.length) = some 1 := ⟨nec_RX4.1, nec_RX4.2, by decide +kernel⟩
theorem cd_yX4_readEither_0 : yX4_readEither.cls ≠ "java/lang/invoke/MethodHandle" ∧ yX4_readEither.cls ≠ "java/lang/invoke/VarHandle" ∧ (parseMethodDescriptor yX4_readEither.desc).map (fun d => d.parameters.length) = some 0 := ⟨nec_RX4.1, nec_RX4.2, by decide +kernel⟩
theorem cd_yX4_readNumber_1 : yX4_readNumber.cls ≠ "java/lang/invoke/MethodHandle" ∧ yX4_readNumber.cls ≠ "java/lang/invoke/VarHandle" ∧ (parseMethodDescriptor yX4_readNumber.desc).map (fun d => d.parameters.length) = some 1 := ⟨nec_RX4.1, nec_RX4.2, by decide +kernel⟩
theorem cd_yX4_readKeys_0 : yX4_readKeys.cls ≠ "java/lang/invoke/MethodHandle" ∧ yX4_readKeys.cls ≠ "java/lang/invoke/VarHandle" ∧ (parseMethodDescriptor yX4_readKeys.desc).map (fun d => d.parameters.length) = some 0 := ⟨nec_RX4.1, nec_RX4.2, by decide +kernel⟩
theorem cd_yX4_isName_1 : yX4_isName.cls ≠ "java/lang/invoke/MethodHandle" ∧ yX4_isName.cls ≠ "java/lang/invoke/VarHandle" ∧ (parseMethodDescriptor yX4_isName.desc).map (fun d => d.parameters.length) = some 1 := ⟨nec_RX4.1, nec_RX4.2, by decide +kernel⟩
theorem cd_yX4_rank_1 : yX4_rank.cls ≠ "java/lang/invoke/MethodHandle" ∧ yX4_rank.cls ≠ "java/lang/invoke/VarHandle" ∧ (parseMethodDescriptor yX4_rank.desc).map (fun d => d.parameters.length) = some 1 := ⟨nec_RX4.1, nec_RX4.2, by decide +kernel⟩
theorem cd_yX4_mostOf_1 : yX4_mostOf.cls ≠ "java/lang/invoke/MethodHandle" ∧ yX4_mostOf.cls ≠ "java/lang/invoke/VarHandle" ∧ (parseMethodDescriptor yX4_mostOf.desc).map (fun d => d.parameters.length) = some 1 := ⟨nec_RX4.1, nec_RX4.2, by decide +kernel⟩
theorem cd_yX6_rewind_0 : yX6_rewind.cls ≠ "java/lang/invoke/MethodHandle" ∧ yX6_rewind.cls ≠ "java/lang/invoke/VarHandle" ∧ (parseMethodDescriptor yX6_rewind.desc).map (fun d => d.parameters.length) = some 0 := ⟨nec_RX6.1, nec_RX6.2, by decide +kernel⟩
theorem cd_yX4_readClause_0 : yX4_readClause.cls ≠ "java/lang/invoke/MethodHandle" ∧ yX4_readClause.cls ≠ "java/lang/invoke/VarHandle" ∧ (parseMethodDescriptor yX4_readClause.desc).map (fun d => d.parameters.length) = some 0 := ⟨nec_RX4.1, nec_RX4.2, by decide +kernel⟩
theorem cd_yX4_read_0 : yX4_read.cls ≠ "java/lang/invoke/MethodHandle" ∧ yX4_read.cls ≠ "java/lang/invoke/VarHandle" ∧ (parseMethodDescriptor yX4_read.desc).map (fun d => d.parameters.length) = some 0 := ⟨nec_RX4.1, nec_RX4.2, by decide +kernel⟩
theorem cd_yX8_init_0 : yX8_init.cls ≠ "java/lang/invoke/MethodHandle" ∧ yX8_init.cls ≠ "java/lang/invoke/VarHandle" ∧ (parseMethodDescriptor yX8_init.desc).map (fun d => d.parameters.length) = some 0 := ⟨nec_RX8.1, nec_RX8.2, by decide +kernel⟩
theorem cd_yX12_see_1 : yX12_see.cls ≠ "java/lang/invoke/MethodHandle" ∧ yX12_see.cls ≠ "java/lang/invoke/VarHandle" ∧ (parseMethodDescriptor yX12_see.desc).map (fun d => d.parameters.length) = some 1 := ⟨nec_RX12.1, nec_RX12.2, by decide +kernel⟩
theorem cd_yX12_w3_3 : yX12_w3.cls ≠ "java/lang/invoke/MethodHandle" ∧ yX12_w3.cls ≠ "java/lang/invoke/VarHandle" ∧ (parseMethodDescriptor yX12_w3.desc).map (fun d => d.parameters.length) = some 3 := ⟨nec_RX12.1, nec_RX12.2, by decide +kernel⟩
theorem cd_yX12_w4_4 : yX12_w4.cls ≠ "java/lang/invoke/MethodHandle" ∧ yX12_w4.cls ≠ "java/lang/invoke/VarHandle" ∧ (parseMethodDescriptor yX12_w4.desc).map (fun d => d.parameters.length) = some 4 := ⟨nec_RX12.1, nec_RX12.2, by decide +kernel⟩
theorem cd_yX12_w5_5 : yX12_w5.cls ≠ "java/lang/invoke/MethodHandle" ∧ yX12_w5.cls ≠ "java/lang/invoke/VarHandle" ∧ (parseMethodDescriptor yX12_w5.desc).map (fun d => d.parameters.length) = some 5 := ⟨nec_RX12.1, nec_RX12.2, by decide +kernel⟩
theorem cd_yX12_isIn_3 : yX12_isIn.cls ≠ "java/lang/invoke/MethodHandle" ∧ yX12_isIn.cls ≠ "java/lang/invoke/VarHandle" ∧ (parseMethodDescriptor yX12_isIn.desc).map (fun d => d.parameters.length) = some 3 := ⟨nec_RX12.1, nec_RX12.2, by decide +kernel⟩
theorem cd_yX12_isDigit_1 : yX12_isDigit.cls ≠ "java/lang/invoke/MethodHandle" ∧ yX12_isDigit.cls ≠ "java/lang/invoke/VarHandle" ∧ (parseMethodDescriptor yX12_isDigit.desc).map (fun d => d.parameters.length) = some 1 := ⟨nec_RX12.1, nec_RX12.2, by decide +kernel⟩
theorem cd_yX12_isLetter_1 : yX12_isLetter.cls ≠ "java/lang/invoke/MethodHandle" ∧ yX12_isLetter.cls ≠ "java/lang/invoke/VarHandle" ∧ (parseMethodDescriptor yX12_isLetter.desc).map (fun d => d.parameters.length) = some 1 := ⟨nec_RX12.1, nec_RX12.2, by decide +kernel⟩
theorem cd_yX12_emit_2 : yX12_emit.cls ≠ "java/lang/invoke/MethodHandle" ∧ yX12_emit.cls ≠ "java/lang/invoke/VarHandle" ∧ (parseMethodDescriptor yX12_emit.desc).map (fun d => d.parameters.length) = some 2 := ⟨nec_RX12.1, nec_RX12.2, by decide +kernel⟩
theorem cd_yX12_hasParen_0 : yX12_hasParen.cls ≠ "java/lang/invoke/MethodHandle" ∧ yX12_hasParen.cls ≠ "java/lang/invoke/VarHandle" ∧ (parseMethodDescriptor yX12_hasParen.desc).map (fun d => d.parameters.length) = some 0 := ⟨nec_RX12.1, nec_RX12.2, by decide +kernel⟩
theorem cd_yX12_nextToken_0 : yX12_nextToken.cls ≠ "java/lang/invoke/MethodHandle" ∧ yX12_nextToken.cls ≠ "java/lang/invoke/VarHandle" ∧ (parseMethodDescriptor yX12_nextToken.desc).map (fun d => d.parameters.length) = some 0 := ⟨nec_RX12.1, nec_RX12.2, by decide +kernel⟩
theorem cd_yX12_whole_0 : yX12_whole.cls ≠ "java/lang/invoke/MethodHandle" ∧ yX12_whole.cls ≠ "java/lang/invoke/VarHandle" ∧ (parseMethodDescriptor yX12_whole.desc).map (fun d => d.parameters.length) = some 0 := ⟨nec_RX12.1, nec_RX12.2, by decide +kernel⟩
theorem cd_yX12_nameOf_0 : yX12_nameOf.cls ≠ "java/lang/invoke/MethodHandle" ∧ yX12_nameOf.cls ≠ "java/lang/invoke/VarHandle" ∧ (parseMethodDescriptor yX12_nameOf.desc).map (fun d => d.parameters.length) = some 0 := ⟨nec_RX12.1, nec_RX12.2, by decide +kernel⟩
theorem cd_yX12_push_1 : yX12_push.cls ≠ "java/lang/invoke/MethodHandle" ∧ yX12_push.cls ≠ "java/lang/invoke/VarHandle" ∧ (parseMethodDescriptor yX12_push.desc).map (fun d => d.parameters.length) = some 1 := ⟨nec_RX12.1, nec_RX12.2, by decide +kernel⟩
theorem cd_yX12_settle_1 : yX12_settle.cls ≠ "java/lang/invoke/MethodHandle" ∧ yX12_settle.cls ≠ "java/lang/invoke/VarHandle" ∧ (parseMethodDescriptor yX12_settle.desc).map (fun d => d.parameters.length) = some 1 := ⟨nec_RX12.1, nec_RX12.2, by decide +kernel⟩
theorem cd_yX12_beginOne_0 : yX12_beginOne.cls ≠ "java/lang/invoke/MethodHandle" ∧ yX12_beginOne.cls ≠ "java/lang/invoke/VarHandle" ∧ (parseMethodDescriptor yX12_beginOne.desc).map (fun d => d.parameters.length) = some 0 := ⟨nec_RX12.1, nec_RX12.2, by decide +kernel⟩
theorem cd_yX12_goesOn_0 : yX12_goesOn.cls ≠ "java/lang/invoke/MethodHandle" ∧ yX12_goesOn.cls ≠ "java/lang/invoke/VarHandle" ∧ (parseMethodDescriptor yX12_goesOn.desc).map (fun d => d.parameters.length) = some 0 := ⟨nec_RX12.1, nec_RX12.2, by decide +kernel⟩
theorem cd_yX12_behindOne_0 : yX12_behindOne.cls ≠ "java/lang/invoke/MethodHandle" ∧ yX12_behindOne.cls ≠ "java/lang/invoke/VarHandle" ∧ (parseMethodDescriptor yX12_behindOne.desc).map (fun d => d.parameters.length) = some 0 := ⟨nec_RX12.1, nec_RX12.2, by decide +kernel⟩
theorem cd_yX12_isWord_1 : yX12_isWord.cls ≠ "java/lang/invoke/MethodHandle" ∧ yX12_isWord.cls ≠ "java/lang/invoke/VarHandle" ∧ (parseMethodDescriptor yX12_isWord.desc).map (fun d => d.parameters.length) = some 1 := ⟨nec_RX12.1, nec_RX12.2, by decide +kernel⟩
theorem cd_yX12_sum_0 : yX12_sum.cls ≠ "java/lang/invoke/MethodHandle" ∧ yX12_sum.cls ≠ "java/lang/invoke/VarHandle" ∧ (parseMethodDescriptor yX12_sum.desc).map (fun d => d.parameters.length) = some 0 := ⟨nec_RX12.1, nec_RX12.2, by decide +kernel⟩
theorem cd_yX12_compareOf_0 : yX12_compareOf.cls ≠ "java/lang/invoke/MethodHandle" ∧ yX12_compareOf.cls ≠ "java/lang/invoke/VarHandle" ∧ (parseMethodDescriptor yX12_compareOf.desc).map (fun d => d.parameters.length) = some 0 := ⟨nec_RX12.1, nec_RX12.2, by decide +kernel⟩
theorem cd_yX12_ask_0 : yX12_ask.cls ≠ "java/lang/invoke/MethodHandle" ∧ yX12_ask.cls ≠ "java/lang/invoke/VarHandle" ∧ (parseMethodDescriptor yX12_ask.desc).map (fun d => d.parameters.length) = some 0 := ⟨nec_RX12.1, nec_RX12.2, by decide +kernel⟩
theorem cd_yX12_w6_6 : yX12_w6.cls ≠ "java/lang/invoke/MethodHandle" ∧ yX12_w6.cls ≠ "java/lang/invoke/VarHandle" ∧ (parseMethodDescriptor yX12_w6.desc).map (fun d => d.parameters.length) = some 6 := ⟨nec_RX12.1, nec_RX12.2, by decide +kernel⟩
theorem cd_yX12_sortOf_0 : yX12_sortOf.cls ≠ "java/lang/invoke/MethodHandle" ∧ yX12_sortOf.cls ≠ "java/lang/invoke/VarHandle" ∧ (parseMethodDescriptor yX12_sortOf.desc).map (fun d => d.parameters.length) = some 0 := ⟨nec_RX12.1, nec_RX12.2, by decide +kernel⟩
theorem cd_yX12_either_0 : yX12_either.cls ≠ "java/lang/invoke/MethodHandle" ∧ yX12_either.cls ≠ "java/lang/invoke/VarHandle" ∧ (parseMethodDescriptor yX12_either.desc).map (fun d => d.parameters.length) = some 0 := ⟨nec_RX12.1, nec_RX12.2, by decide +kernel⟩
theorem cd_yX12_take_2 : yX12_take.cls ≠ "java/lang/invoke/MethodHandle" ∧ yX12_take.cls ≠ "java/lang/invoke/VarHandle" ∧ (parseMethodDescriptor yX12_take.desc).map (fun d => d.parameters.length) = some 2 := ⟨nec_RX12.1, nec_RX12.2, by decide +kernel⟩
theorem cd_yX12_keys_1 : yX12_keys.cls ≠ "java/lang/invoke/MethodHandle" ∧ yX12_keys.cls ≠ "java/lang/invoke/VarHandle" ∧ (parseMethodDescriptor yX12_keys.desc).map (fun d => d.parameters.length) = some 1 := ⟨nec_RX12.1, nec_RX12.2, by decide +kernel⟩
theorem cd_yX12_clause_0 : yX12_clause.cls ≠ "java/lang/invoke/MethodHandle" ∧ yX12_clause.cls ≠ "java/lang/invoke/VarHandle" ∧ (parseMethodDescriptor yX12_clause.desc).map (fun d => d.parameters.length) = some 0 := ⟨nec_RX12.1, nec_RX12.2, by decide +kernel⟩
theorem cd_yX12_readText_0 : yX12_readText.cls ≠ "java/lang/invoke/MethodHandle" ∧ yX12_readText.cls ≠ "java/lang/invoke/VarHandle" ∧ (parseMethodDescriptor yX12_readText.desc).map (fun d => d.parameters.length) = some 0 := ⟨nec_RX12.1, nec_RX12.2, by decide +kernel⟩
theorem cd_yX12_isRing_1 : yX12_isRing.cls ≠ "java/lang/invoke/MethodHandle" ∧ yX12_isRing.cls ≠ "java/lang/invoke/VarHandle" ∧ (parseMethodDescriptor yX12_isRing.desc).map (fun d => d.parameters.length) = some 1 := ⟨nec_RX12.1, nec_RX12.2, by decide +kernel⟩
theorem cd_yX12_isRise_1 : yX12_isRise.cls ≠ "java/lang/invoke/MethodHandle" ∧ yX12_isRise.cls ≠ "java/lang/invoke/VarHandle" ∧ (parseMethodDescriptor yX12_isRise.desc).map (fun d => d.parameters.length) = some 1 := ⟨nec_RX12.1, nec_RX12.2, by decide +kernel⟩
theorem cd_yX12_isMonth_1 : yX12_isMonth.cls ≠ "java/lang/invoke/MethodHandle" ∧ yX12_isMonth.cls ≠ "java/lang/invoke/VarHandle" ∧ (parseMethodDescriptor yX12_isMonth.desc).map (fun d => d.parameters.length) = some 1 := ⟨nec_RX12.1, nec_RX12.2, by decide +kernel⟩
theorem cd_yX12_latest_3 : yX12_latest.cls ≠ "java/lang/invoke/MethodHandle" ∧ yX12_latest.cls ≠ "java/lang/invoke/VarHandle" ∧ (parseMethodDescriptor yX12_latest.desc).map (fun d => d.parameters.length) = some 3 := ⟨nec_RX12.1, nec_RX12.2, by decide +kernel⟩
theorem cd_yX12_worst_2 : yX12_worst.cls ≠ "java/lang/invoke/MethodHandle" ∧ yX12_worst.cls ≠ "java/lang/invoke/VarHandle" ∧ (parseMethodDescriptor yX12_worst.desc).map (fun d => d.parameters.length) = some 2 := ⟨nec_RX12.1, nec_RX12.2, by decide +kernel⟩
theorem cd_yX12_levelAt_3 : yX12_levelAt.cls ≠ "java/lang/invoke/MethodHandle" ∧ yX12_levelAt.cls ≠ "java/lang/invoke/VarHandle" ∧ (parseMethodDescriptor yX12_levelAt.desc).map (fun d => d.parameters.length) = some 3 := ⟨nec_RX12.1, nec_RX12.2, by decide +kernel⟩
theorem cd_yX12_isCell_1 : yX12_isCell.cls ≠ "java/lang/invoke/MethodHandle" ∧ yX12_isCell.cls ≠ "java/lang/invoke/VarHandle" ∧ (parseMethodDescriptor yX12_isCell.desc).map (fun d => d.parameters.length) = some 1 := ⟨nec_RX12.1, nec_RX12.2, by decide +kernel⟩
theorem cd_yX12_cellAt_2 : yX12_cellAt.cls ≠ "java/lang/invoke/MethodHandle" ∧ yX12_cellAt.cls ≠ "java/lang/invoke/VarHandle" ∧ (parseMethodDescriptor yX12_cellAt.desc).map (fun d => d.parameters.length) = some 2 := ⟨nec_RX12.1, nec_RX12.2, by decide +kernel⟩
theorem cd_yX12_personAt_2 : yX12_personAt.cls ≠ "java/lang/invoke/MethodHandle" ∧ yX12_personAt.cls ≠ "java/lang/invoke/VarHandle" ∧ (parseMethodDescriptor yX12_personAt.desc).map (fun d => d.parameters.length) = some 2 := ⟨nec_RX12.1, nec_RX12.2, by decide +kernel⟩
theorem cd_yX12_manyAt_1 : yX12_manyAt.cls ≠ "java/lang/invoke/MethodHandle" ∧ yX12_manyAt.cls ≠ "java/lang/invoke/VarHandle" ∧ (parseMethodDescriptor yX12_manyAt.desc).map (fun d => d.parameters.length) = some 1 := ⟨nec_RX12.1, nec_RX12.2, by decide +kernel⟩
theorem cd_yX12_isLot_1 : yX12_isLot.cls ≠ "java/lang/invoke/MethodHandle" ∧ yX12_isLot.cls ≠ "java/lang/invoke/VarHandle" ∧ (parseMethodDescriptor yX12_isLot.desc).map (fun d => d.parameters.length) = some 1 := ⟨nec_RX12.1, nec_RX12.2, by decide +kernel⟩
theorem cd_yX12_isPerson_1 : yX12_isPerson.cls ≠ "java/lang/invoke/MethodHandle" ∧ yX12_isPerson.cls ≠ "java/lang/invoke/VarHandle" ∧ (parseMethodDescriptor yX12_isPerson.desc).map (fun d => d.parameters.length) = some 1 := ⟨nec_RX12.1, nec_RX12.2, by decide +kernel⟩
theorem cd_yX12_isPlace_1 : yX12_isPlace.cls ≠ "java/lang/invoke/MethodHandle" ∧ yX12_isPlace.cls ≠ "java/lang/invoke/VarHandle" ∧ (parseMethodDescriptor yX12_isPlace.desc).map (fun d => d.parameters.length) = some 1 := ⟨nec_RX12.1, nec_RX12.2, by decide +kernel⟩
theorem cd_yX12_freeIn_1 : yX12_freeIn.cls ≠ "java/lang/invoke/MethodHandle" ∧ yX12_freeIn.cls ≠ "java/lang/invoke/VarHandle" ∧ (parseMethodDescriptor yX12_freeIn.desc).map (fun d => d.parameters.length) = some 1 := ⟨nec_RX12.1, nec_RX12.2, by decide +kernel⟩
theorem cd_yX12_clausesOf_1 : yX12_clausesOf.cls ≠ "java/lang/invoke/MethodHandle" ∧ yX12_clausesOf.cls ≠ "java/lang/invoke/VarHandle" ∧ (parseMethodDescriptor yX12_clausesOf.desc).map (fun d => d.parameters.length) = some 1 := ⟨nec_RX12.1, nec_RX12.2, by decide +kernel⟩
theorem cd_yX12_clauseAt_2 : yX12_clauseAt.cls ≠ "java/lang/invoke/MethodHandle" ∧ yX12_clauseAt.cls ≠ "java/lang/invoke/VarHandle" ∧ (parseMethodDescriptor yX12_clauseAt.desc).map (fun d => d.parameters.length) = some 2 := ⟨nec_RX12.1, nec_RX12.2, by decide +kernel⟩
theorem cd_yX12_firstOf_2 : yX12_firstOf.cls ≠ "java/lang/invoke/MethodHandle" ∧ yX12_firstOf.cls ≠ "java/lang/invoke/VarHandle" ∧ (parseMethodDescriptor yX12_firstOf.desc).map (fun d => d.parameters.length) = some 2 := ⟨nec_RX12.1, nec_RX12.2, by decide +kernel⟩
theorem cd_yX12_textFor_2 : yX12_textFor.cls ≠ "java/lang/invoke/MethodHandle" ∧ yX12_textFor.cls ≠ "java/lang/invoke/VarHandle" ∧ (parseMethodDescriptor yX12_textFor.desc).map (fun d => d.parameters.length) = some 2 := ⟨nec_RX12.1, nec_RX12.2, by decide +kernel⟩
theorem cd_yX12_named_4 : yX12_named.cls ≠ "java/lang/invoke/MethodHandle" ∧ yX12_named.cls ≠ "java/lang/invoke/VarHandle" ∧ (parseMethodDescriptor yX12_named.desc).map (fun d => d.parameters.length) = some 4 := ⟨nec_RX12.1, nec_RX12.2, by decide +kernel⟩
theorem cd_yX12_keysFor_2 : yX12_keysFor.cls ≠ "java/lang/invoke/MethodHandle" ∧ yX12_keysFor.cls ≠ "java/lang/invoke/VarHandle" ∧ (parseMethodDescriptor yX12_keysFor.desc).map (fun d => d.parameters.length) = some 2 := ⟨nec_RX12.1, nec_RX12.2, by decide +kernel⟩
theorem cd_yX12_isAhead_3 : yX12_isAhead.cls ≠ "java/lang/invoke/MethodHandle" ∧ yX12_isAhead.cls ≠ "java/lang/invoke/VarHandle" ∧ (parseMethodDescriptor yX12_isAhead.desc).map (fun d => d.parameters.length) = some 3 := ⟨nec_RX12.1, nec_RX12.2, by decide +kernel⟩
theorem cd_yX12_clip_1 : yX12_clip.cls ≠ "java/lang/invoke/MethodHandle" ∧ yX12_clip.cls ≠ "java/lang/invoke/VarHandle" ∧ (parseMethodDescriptor yX12_clip.desc).map (fun d => d.parameters.length) = some 1 := ⟨nec_RX12.1, nec_RX12.2, by decide +kernel⟩
theorem cd_yX12_isAsked_3 : yX12_isAsked.cls ≠ "java/lang/invoke/MethodHandle" ∧ yX12_isAsked.cls ≠ "java/lang/invoke/VarHandle" ∧ (parseMethodDescriptor yX12_isAsked.desc).map (fun d => d.parameters.length) = some 3 := ⟨nec_RX12.1, nec_RX12.2, by decide +kernel⟩
theorem cd_yX12_two_3 : yX12_two.cls ≠ "java/lang/invoke/MethodHandle" ∧ yX12_two.cls ≠ "java/lang/invoke/VarHandle" ∧ (parseMethodDescriptor yX12_two.desc).map (fun d => d.parameters.length) = some 3 := ⟨nec_RX12.1, nec_RX12.2, by decide +kernel⟩
theorem cd_yX12_isSo_5 : yX12_isSo.cls ≠ "java/lang/invoke/MethodHandle" ∧ yX12_isSo.cls ≠ "java/lang/invoke/VarHandle" ∧ (parseMethodDescriptor yX12_isSo.desc).map (fun d => d.parameters.length) = some 5 := ⟨nec_RX12.1, nec_RX12.2, by decide +kernel⟩
theorem cd_yX12_firstSo_4 : yX12_firstSo.cls ≠ "java/lang/invoke/MethodHandle" ∧ yX12_firstSo.cls ≠ "java/lang/invoke/VarHandle" ∧ (parseMethodDescriptor yX12_firstSo.desc).map (fun d => d.parameters.length) = some 4 := ⟨nec_RX12.1, nec_RX12.2, by decide +kernel⟩
theorem cd_yX12_stands_1 : yX12_stands.cls ≠ "java/lang/invoke/MethodHandle" ∧ yX12_stands.cls ≠ "java/lang/invoke/VarHandle" ∧ (parseMethodDescriptor yX12_stands.desc).map (fun d => d.parameters.length) = some 1 := ⟨nec_RX12.1, nec_RX12.2, by decide +kernel⟩
theorem cd_yX12_four_1 : yX12_four.cls ≠ "java/lang/invoke/MethodHandle" ∧ yX12_four.cls ≠ "java/lang/invoke/VarHandle" ∧ (parseMethodDescriptor yX12_four.desc).map (fun d => d.parameters.length) = some 1 := ⟨nec_RX12.1, nec_RX12.2, by decide +kernel⟩
theorem cd_yX12_isFor_3 : yX12_isFor.cls ≠ "java/lang/invoke/MethodHandle" ∧ yX12_isFor.cls ≠ "java/lang/invoke/VarHandle" ∧ (parseMethodDescriptor yX12_isFor.desc).map (fun d => d.parameters.length) = some 3 := ⟨nec_RX12.1, nec_RX12.2, by decide +kernel⟩
theorem cd_yX12_numberOf_3 : yX12_numberOf.cls ≠ "java/lang/invoke/MethodHandle" ∧ yX12_numberOf.cls ≠ "java/lang/invoke/VarHandle" ∧ (parseMethodDescriptor yX12_numberOf.desc).map (fun d => d.parameters.length) = some 3 := ⟨nec_RX12.1, nec_RX12.2, by decide +kernel⟩
theorem cd_yX12_tableAt_2 : yX12_tableAt.cls ≠ "java/lang/invoke/MethodHandle" ∧ yX12_tableAt.cls ≠ "java/lang/invoke/VarHandle" ∧ (parseMethodDescriptor yX12_tableAt.desc).map (fun d => d.parameters.length) = some 2 := ⟨nec_RX12.1, nec_RX12.2, by decide +kernel⟩
theorem cd_yX12_topOf_1 : yX12_topOf.cls ≠ "java/lang/invoke/MethodHandle" ∧ yX12_topOf.cls ≠ "java/lang/invoke/VarHandle" ∧ (parseMethodDescriptor yX12_topOf.desc).map (fun d => d.parameters.length) = some 1 := ⟨nec_RX12.1, nec_RX12.2, by decide +kernel⟩
theorem cd_yX12_isOnRing_1 : yX12_isOnRing.cls ≠ "java/lang/invoke/MethodHandle" ∧ yX12_isOnRing.cls ≠ "java/lang/invoke/VarHandle" ∧ (parseMethodDescriptor yX12_isOnRing.desc).map (fun d => d.parameters.length) = some 1 := ⟨nec_RX12.1, nec_RX12.2, by decide +kernel⟩
theorem cd_yX12_isSweet_2 : yX12_isSweet.cls ≠ "java/lang/invoke/MethodHandle" ∧ yX12_isSweet.cls ≠ "java/lang/invoke/VarHandle" ∧ (parseMethodDescriptor yX12_isSweet.desc).map (fun d => d.parameters.length) = some 2 := ⟨nec_RX12.1, nec_RX12.2, by decide +kernel⟩
theorem cd_yX12_wasRock_2 : yX12_wasRock.cls ≠ "java/lang/invoke/MethodHandle" ∧ yX12_wasRock.cls ≠ "java/lang/invoke/VarHandle" ∧ (parseMethodDescriptor yX12_wasRock.desc).map (fun d => d.parameters.length) = some 2 := ⟨nec_RX12.1, nec_RX12.2, by decide +kernel⟩
theorem cd_yX12_areaOf_1 : yX12_areaOf.cls ≠ "java/lang/invoke/MethodHandle" ∧ yX12_areaOf.cls ≠ "java/lang/invoke/VarHandle" ∧ (parseMethodDescriptor yX12_areaOf.desc).map (fun d => d.parameters.length) = some 1 := ⟨nec_RX12.1, nec_RX12.2, by decide +kernel⟩
theorem cd_yX12_sails_3 : yX12_sails.cls ≠ "java/lang/invoke/MethodHandle" ∧ yX12_sails.cls ≠ "java/lang/invoke/VarHandle" ∧ (parseMethodDescriptor yX12_sails.desc).map (fun d => d.parameters.length) = some 3 := ⟨nec_RX12.1, nec_RX12.2, by decide +kernel⟩
theorem cd_yX12_isOfKin_3 : yX12_isOfKin.cls ≠ "java/lang/invoke/MethodHandle" ∧ yX12_isOfKin.cls ≠ "java/lang/invoke/VarHandle" ∧ (parseMethodDescriptor yX12_isOfKin.desc).map (fun d => d.parameters.length) = some 3 := ⟨nec_RX12.1, nec_RX12.2, by decide +kernel⟩
theorem cd_yX12_family_3 : yX12_family.cls ≠ "java/lang/invoke/MethodHandle" ∧ yX12_family.cls ≠ "java/lang/invoke/VarHandle" ∧ (parseMethodDescriptor yX12_family.desc).map (fun d => d.parameters.length) = some 3 := ⟨nec_RX12.1, nec_RX12.2, by decide +kernel⟩
theorem cd_yX12_goesAhead_4 : yX12_goesAhead.cls ≠ "java/lang/invoke/MethodHandle" ∧ yX12_goesAhead.cls ≠ "java/lang/invoke/VarHandle" ∧ (parseMethodDescriptor yX12_goesAhead.desc).map (fun d => d.parameters.length) = some 4 := ⟨nec_RX12.1, nec_RX12.2, by decide +kernel⟩
theorem cd_yX12_reefGoes_1 : yX12_reefGoes.cls ≠ "java/lang/invoke/MethodHandle" ∧ yX12_reefGoes.cls ≠ "java/lang/invoke/VarHandle" ∧ (parseMethodDescriptor yX12_reefGoes.desc).map (fun d => d.parameters.length) = some 1 := ⟨nec_RX12.1, nec_RX12.2, by decide +kernel⟩
theorem cd_yX12_sandGoes_1 : yX12_sandGoes.cls ≠ "java/lang/invoke/MethodHandle" ∧ yX12_sandGoes.cls ≠ "java/lang/invoke/VarHandle" ∧ (parseMethodDescriptor yX12_sandGoes.desc).map (fun d => d.parameters.length) = some 1 := ⟨nec_RX12.1, nec_RX12.2, by decide +kernel⟩
theorem cd_yX12_seaStands_2 : yX12_seaStands.cls ≠ "java/lang/invoke/MethodHandle" ∧ yX12_seaStands.cls ≠ "java/lang/invoke/VarHandle" ∧ (parseMethodDescriptor yX12_seaStands.desc).map (fun d => d.parameters.length) = some 2 := ⟨nec_RX12.1, nec_RX12.2, by decide +kernel⟩
theorem cd_yX12_drink_0 : yX12_drink.cls ≠ "java/lang/invoke/MethodHandle" ∧ yX12_drink.cls ≠ "java/lang/invoke/VarHandle" ∧ (parseMethodDescriptor yX12_drink.desc).map (fun d => d.parameters.length) = some 0 := ⟨nec_RX12.1, nec_RX12.2, by decide +kernel⟩
theorem cd_yX12_sleep_0 : yX12_sleep.cls ≠ "java/lang/invoke/MethodHandle" ∧ yX12_sleep.cls ≠ "java/lang/invoke/VarHandle" ∧ (parseMethodDescriptor yX12_sleep.desc).map (fun d => d.parameters.length) = some 0 := ⟨nec_RX12.1, nec_RX12.2, by decide +kernel⟩
theorem cd_yX12_fundGoes_1 : yX12_fundGoes.cls ≠ "java/lang/invoke/MethodHandle" ∧ yX12_fundGoes.cls ≠ "java/lang/invoke/VarHandle" ∧ (parseMethodDescriptor yX12_fundGoes.desc).map (fun d => d.parameters.length) = some 1 := ⟨nec_RX12.1, nec_RX12.2, by decide +kernel⟩
theorem cd_yX12_boatsGo_1 : yX12_boatsGo.cls ≠ "java/lang/invoke/MethodHandle" ∧ yX12_boatsGo.cls ≠ "java/lang/invoke/VarHandle" ∧ (parseMethodDescriptor yX12_boatsGo.desc).map (fun d => d.parameters.length) = some 1 := ⟨nec_RX12.1, nec_RX12.2, by decide +kernel⟩
theorem cd_yX12_isTime_3 : yX12_isTime.cls ≠ "java/lang/invoke/MethodHandle" ∧ yX12_isTime.cls ≠ "java/lang/invoke/VarHandle" ∧ (parseMethodDescriptor yX12_isTime.desc).map (fun d => d.parameters.length) = some 3 := ⟨nec_RX12.1, nec_RX12.2, by decide +kernel⟩
theorem cd_yX12_month_1 : yX12_month.cls ≠ "java/lang/invoke/MethodHandle" ∧ yX12_month.cls ≠ "java/lang/invoke/VarHandle" ∧ (parseMethodDescriptor yX12_month.desc).map (fun d => d.parameters.length) = some 1 := ⟨nec_RX12.1, nec_RX12.2, by decide +kernel⟩
theorem cd_yX12_copy_2 : yX12_copy.cls ≠ "java/lang/invoke/MethodHandle" ∧ yX12_copy.cls ≠ "java/lang/invoke/VarHandle" ∧ (parseMethodDescriptor yX12_copy.desc).map (fun d => d.parameters.length) = some 2 := ⟨nec_RX12.1, nec_RX12.2, by decide +kernel⟩
theorem cd_yX12_sandBehind_3 : yX12_sandBehind.cls ≠ "java/lang/invoke/MethodHandle" ∧ yX12_sandBehind.cls ≠ "java/lang/invoke/VarHandle" ∧ (parseMethodDescriptor yX12_sandBehind.desc).map (fun d => d.parameters.length) = some 3 := ⟨nec_RX12.1, nec_RX12.2, by decide +kernel⟩
theorem cd_yX12_wants_0 : yX12_wants.cls ≠ "java/lang/invoke/MethodHandle" ∧ yX12_wants.cls ≠ "java/lang/invoke/VarHandle" ∧ (parseMethodDescriptor yX12_wants.desc).map (fun d => d.parameters.length) = some 0 := ⟨nec_RX12.1, nec_RX12.2, by decide +kernel⟩
theorem cd_yX12_nextOrder_1 : yX12_nextOrder.cls ≠ "java/lang/invoke/MethodHandle" ∧ yX12_nextOrder.cls ≠ "java/lang/invoke/VarHandle" ∧ (parseMethodDescriptor yX12_nextOrder.desc).map (fun d => d.parameters.length) = some 1 := ⟨nec_RX12.1, nec_RX12.2, by decide +kernel⟩
theorem cd_yX12_lies_2 : yX12_lies.cls ≠ "java/lang/invoke/MethodHandle" ∧ yX12_lies.cls ≠ "java/lang/invoke/VarHandle" ∧ (parseMethodDescriptor yX12_lies.desc).map (fun d => d.parameters.length) = some 2 := ⟨nec_RX12.1, nec_RX12.2, by decide +kernel⟩
theorem cd_yX7_init_0 : yX7_init.cls ≠ "java/lang/invoke/MethodHandle" ∧ yX7_init.cls ≠ "java/lang/invoke/VarHandle" ∧ (parseMethodDescriptor yX7_init.desc).map (fun d => d.parameters.length) = some 0 := ⟨nec_RX7.1, nec_RX7.2, by decide +kernel⟩
theorem cd_yX2_init_0 : yX2_init.cls ≠ "java/lang/invoke/MethodHandle" ∧ yX2_init.cls ≠ "java/lang/invoke/VarHandle" ∧ (parseMethodDescriptor yX2_init.desc).map (fun d => d.parameters.length) = some 0 := ⟨nec_RX2.1, nec_RX2.2, by decide +kernel⟩
theorem cd_yX10_init_0 : yX10_init.cls ≠ "java/lang/invoke/MethodHandle" ∧ yX10_init.cls ≠ "java/lang/invoke/VarHandle" ∧ (parseMethodDescriptor yX10_init.desc).map (fun d => d.parameters.length) = some 0 := ⟨nec_RX10.1, nec_RX10.2, by decide +kernel⟩
theorem cd_yX9_init_0 : yX9_init.cls ≠ "java/lang/invoke/MethodHandle" ∧ yX9_init.cls ≠ "java/lang/invoke/VarHandle" ∧ (parseMethodDescriptor yX9_init.desc).map (fun d => d.parameters.length) = some 0 := ⟨nec_RX9.1, nec_RX9.2, by decide +kernel⟩
theorem cd_yX0_init_0 : yX0_init.cls ≠ "java/lang/invoke/MethodHandle" ∧ yX0_init.cls ≠ "java/lang/invoke/VarHandle" ∧ (parseMethodDescriptor yX0_init.desc).map (fun d => d.parameters.length) = some 0 := ⟨nec_RX0.1, nec_RX0.2, by decide +kernel⟩
theorem cd_yX3_init_0 : yX3_init.cls ≠ "java/lang/invoke/MethodHandle" ∧ yX3_init.cls ≠ "java/lang/invoke/VarHandle" ∧ (parseMethodDescriptor yX3_init.desc).map (fun d => d.parameters.length) = some 0 := ⟨nec_RX3.1, nec_RX3.2, by decide +kernel⟩
theorem cd_yX1_init_0 : yX1_init.cls ≠ "java/lang/invoke/MethodHandle" ∧ yX1_init.cls ≠ "java/lang/invoke/VarHandle" ∧ (parseMethodDescriptor yX1_init.desc).map (fun d => d.parameters.length) = some 0 := ⟨nec_RX1.1, nec_RX1.2, by decide +kernel⟩
theorem cd_yX6_init_0 : yX6_init.cls ≠ "java/lang/invoke/MethodHandle" ∧ yX6_init.cls ≠ "java/lang/invoke/VarHandle" ∧ (parseMethodDescriptor yX6_init.desc).map (fun d => d.parameters.length) = some 0 := ⟨nec_RX6.1, nec_RX6.2, by decide +kernel⟩
theorem cd_yX5_init_0 : yX5_init.cls ≠ "java/lang/invoke/MethodHandle" ∧ yX5_init.cls ≠ "java/lang/invoke/VarHandle" ∧ (parseMethodDescriptor yX5_init.desc).map (fun d => d.parameters.length) = some 0 := ⟨nec_RX5.1, nec_RX5.2, by decide +kernel⟩
theorem cd_yX4_init_0 : yX4_init.cls ≠ "java/lang/invoke/MethodHandle" ∧ yX4_init.cls ≠ "java/lang/invoke/VarHandle" ∧ (parseMethodDescriptor yX4_init.desc).map (fun d => d.parameters.length) = some 0 := ⟨nec_RX4.1, nec_RX4.2, by decide +kernel⟩
theorem cd_yX11_ring_0 : yX11_ring.cls ≠ "java/lang/invoke/MethodHandle" ∧ yX11_ring.cls ≠ "java/lang/invoke/VarHandle" ∧ (parseMethodDescriptor yX11_ring.desc).map (fun d => d.parameters.length) = some 0 := ⟨nec_RX11.1, nec_RX11.2, by decide +kernel⟩
theorem cd_yX12_ring_0 : yX12_ring.cls ≠ "java/lang/invoke/MethodHandle" ∧ yX12_ring.cls ≠ "java/lang/invoke/VarHandle" ∧ (parseMethodDescriptor yX12_ring.desc).map (fun d => d.parameters.length) = some 0 := ⟨nec_RX12.1, nec_RX12.2, by decide +kernel⟩
theorem cd_yX11_cell_6 : yX11_cell.cls ≠ "java/lang/invoke/MethodHandle" ∧ yX11_cell.cls ≠ "java/lang/invoke/VarHandle" ∧ (parseMethodDescriptor yX11_cell.desc).map (fun d => d.parameters.length) = some 6 := ⟨nec_RX11.1, nec_RX11.2, by decide +kernel⟩
theorem cd_yX12_cell_6 : yX12_cell.cls ≠ "java/lang/invoke/MethodHandle" ∧ yX12_cell.cls ≠ "java/lang/invoke/VarHandle" ∧ (parseMethodDescriptor yX12_cell.desc).map (fun d => d.parameters.length) = some 6 := ⟨nec_RX12.1, nec_RX12.2, by decide +kernel⟩
theorem cd_yX11_level_4 : yX11_level.cls ≠ "java/lang/invoke/MethodHandle" ∧ yX11_level.cls ≠ "java/lang/invoke/VarHandle" ∧ (parseMethodDescriptor yX11_level.desc).map (fun d => d.parameters.length) = some 4 := ⟨nec_RX11.1, nec_RX11.2, by decide +kernel⟩
theorem cd_yX12_level_4 : yX12_level.cls ≠ "java/lang/invoke/MethodHandle" ∧ yX12_level.cls ≠ "java/lang/invoke/VarHandle" ∧ (parseMethodDescriptor yX12_level.desc).map (fun d => d.parameters.length) = some 4 := ⟨nec_RX12.1, nec_RX12.2, by decide +kernel⟩
theorem cd_yX11_levelOf_3 : yX11_levelOf.cls ≠ "java/lang/invoke/MethodHandle" ∧ yX11_levelOf.cls ≠ "java/lang/invoke/VarHandle" ∧ (parseMethodDescriptor yX11_levelOf.desc).map (fun d => d.parameters.length) = some 3 := ⟨nec_RX11.1, nec_RX11.2, by decide +kernel⟩
theorem cd_yX12_levelOf_3 : yX12_levelOf.cls ≠ "java/lang/invoke/MethodHandle" ∧ yX12_levelOf.cls ≠ "java/lang/invoke/VarHandle" ∧ (parseMethodDescriptor yX12_levelOf.desc).map (fun d => d.parameters.length) = some 3 := ⟨nec_RX12.1, nec_RX12.2, by decide +kernel⟩
theorem cd_yX11_table_6 : yX11_table.cls ≠ "java/lang/invoke/MethodHandle" ∧ yX11_table.cls ≠ "java/lang/invoke/VarHandle" ∧ (parseMethodDescriptor yX11_table.desc).map (fun d => d.parameters.length) = some 6 := ⟨nec_RX11.1, nec_RX11.2, by decide +kernel⟩
theorem cd_yX12_table_6 : yX12_table.cls ≠ "java/lang/invoke/MethodHandle" ∧ yX12_table.cls ≠ "java/lang/invoke/VarHandle" ∧ (parseMethodDescriptor yX12_table.desc).map (fun d => d.parameters.length) = some 6 := ⟨nec_RX12.1, nec_RX12.2, by decide +kernel⟩
theorem cd_yX11_rules_5 : yX11_rules.cls ≠ "java/lang/invoke/MethodHandle" ∧ yX11_rules.cls ≠ "java/lang/invoke/VarHandle" ∧ (parseMethodDescriptor yX11_rules.desc).map (fun d => d.parameters.length) = some 5 := ⟨nec_RX11.1, nec_RX11.2, by decide +kernel⟩
theorem cd_yX12_rules_5 : yX12_rules.cls ≠ "java/lang/invoke/MethodHandle" ∧ yX12_rules.cls ≠ "java/lang/invoke/VarHandle" ∧ (parseMethodDescriptor yX12_rules.desc).map (fun d => d.parameters.length) = some 5 := ⟨nec_RX12.1, nec_RX12.2, by decide +kernel⟩
theorem cd_yX11_wall_2 : yX11_wall.cls ≠ "java/lang/invoke/MethodHandle" ∧ yX11_wall.cls ≠ "java/lang/invoke/VarHandle" ∧ (parseMethodDescriptor yX11_wall.desc).map (fun d => d.parameters.length) = some 2 := ⟨nec_RX11.1, nec_RX11.2, by decide +kernel⟩
theorem cd_yX12_wall_2 : yX12_wall.cls ≠ "java/lang/invoke/MethodHandle" ∧ yX12_wall.cls ≠ "java/lang/invoke/VarHandle" ∧ (parseMethodDescriptor yX12_wall.desc).map (fun d => d.parameters.length) = some 2 := ⟨nec_RX12.1, nec_RX12.2, by decide +kernel⟩
theorem cd_yX11_well_4 : yX11_well.cls ≠ "java/lang/invoke/MethodHandle" ∧ yX11_well.cls ≠ "java/lang/invoke/VarHandle" ∧ (parseMethodDescriptor yX11_well.desc).map (fun d => d.parameters.length) = some 4 := ⟨nec_RX11.1, nec_RX11.2, by decide +kernel⟩
theorem cd_yX12_well_4 : yX12_well.cls ≠ "java/lang/invoke/MethodHandle" ∧ yX12_well.cls ≠ "java/lang/invoke/VarHandle" ∧ (parseMethodDescriptor yX12_well.desc).map (fun d => d.parameters.length) = some 4 := ⟨nec_RX12.1, nec_RX12.2, by decide +kernel⟩
theorem cd_yX11_beds_2 : yX11_beds.cls ≠ "java/lang/invoke/MethodHandle" ∧ yX11_beds.cls ≠ "java/lang/invoke/VarHandle" ∧ (parseMethodDescriptor yX11_beds.desc).map (fun d => d.parameters.length) = some 2 := ⟨nec_RX11.1, nec_RX11.2, by decide +kernel⟩
theorem cd_yX12_beds_2 : yX12_beds.cls ≠ "java/lang/invoke/MethodHandle" ∧ yX12_beds.cls ≠ "java/lang/invoke/VarHandle" ∧ (parseMethodDescriptor yX12_beds.desc).map (fun d => d.parameters.length) = some 2 := ⟨nec_RX12.1, nec_RX12.2, by decide +kernel⟩
theorem cd_yX11_lot_1 : yX11_lot.cls ≠ "java/lang/invoke/MethodHandle" ∧ yX11_lot.cls ≠ "java/lang/invoke/VarHandle" ∧ (parseMethodDescriptor yX11_lot.desc).map (fun d => d.parameters.length) = some 1 := ⟨nec_RX11.1, nec_RX11.2, by decide +kernel⟩
theorem cd_yX12_lot_1 : yX12_lot.cls ≠ "java/lang/invoke/MethodHandle" ∧ yX12_lot.cls ≠ "java/lang/invoke/VarHandle" ∧ (parseMethodDescriptor yX12_lot.desc).map (fun d => d.parameters.length) = some 1 := ⟨nec_RX12.1, nec_RX12.2, by decide +kernel⟩
theorem cd_yX11_person_5 : yX11_person.cls ≠ "java/lang/invoke/MethodHandle" ∧ yX11_person.cls ≠ "java/lang/invoke/VarHandle" ∧ (parseMethodDescriptor yX11_person.desc).map (fun d => d.parameters.length) = some 5 := ⟨nec_RX11.1, nec_RX11.2, by decide +kernel⟩
theorem cd_yX12_person_5 : yX12_person.cls ≠ "java/lang/invoke/MethodHandle" ∧ yX12_person.cls ≠ "java/lang/invoke/VarHandle" ∧ (parseMethodDescriptor yX12_person.desc).map (fun d => d.parameters.length) = some 5 := ⟨nec_RX12.1, nec_RX12.2, by decide +kernel⟩
theorem cd_yX11_go_2 : yX11_go.cls ≠ "java/lang/invoke/MethodHandle" ∧ yX11_go.cls ≠ "java/lang/invoke/VarHandle" ∧ (parseMethodDescriptor yX11_go.desc).map (fun d => d.parameters.length) = some 2 := ⟨nec_RX11.1, nec_RX11.2, by decide +kernel⟩
theorem cd_yX12_go_2 : yX12_go.cls ≠ "java/lang/invoke/MethodHandle" ∧ yX12_go.cls ≠ "java/lang/invoke/VarHandle" ∧ (parseMethodDescriptor yX12_go.desc).map (fun d => d.parameters.length) = some 2 := ⟨nec_RX12.1, nec_RX12.2, by decide +kernel⟩
theorem cd_yX11_death_1 : yX11_death.cls ≠ "java/lang/invoke/MethodHandle" ∧ yX11_death.cls ≠ "java/lang/invoke/VarHandle" ∧ (parseMethodDescriptor yX11_death.desc).map (fun d => d.parameters.length) = some 1 := ⟨nec_RX11.1, nec_RX11.2, by decide +kernel⟩
theorem cd_yX12_death_1 : yX12_death.cls ≠ "java/lang/invoke/MethodHandle" ∧ yX12_death.cls ≠ "java/lang/invoke/VarHandle" ∧ (parseMethodDescriptor yX12_death.desc).map (fun d => d.parameters.length) = some 1 := ⟨nec_RX12.1, nec_RX12.2, by decide +kernel⟩
theorem cd_yX11_title_2 : yX11_title.cls ≠ "java/lang/invoke/MethodHandle" ∧ yX11_title.cls ≠ "java/lang/invoke/VarHandle" ∧ (parseMethodDescriptor yX11_title.desc).map (fun d => d.parameters.length) = some 2 := ⟨nec_RX11.1, nec_RX11.2, by decide +kernel⟩
theorem cd_yX12_title_2 : yX12_title.cls ≠ "java/lang/invoke/MethodHandle" ∧ yX12_title.cls ≠ "java/lang/invoke/VarHandle" ∧ (parseMethodDescriptor yX12_title.desc).map (fun d => d.parameters.length) = some 2 := ⟨nec_RX12.1, nec_RX12.2, by decide +kernel⟩
theorem cd_yX11_titleOf_2 : yX11_titleOf.cls ≠ "java/lang/invoke/MethodHandle" ∧ yX11_titleOf.cls ≠ "java/lang/invoke/VarHandle" ∧ (parseMethodDescriptor yX11_titleOf.desc).map (fun d => d.parameters.length) = some 2 := ⟨nec_RX11.1, nec_RX11.2, by decide +kernel⟩
theorem cd_yX12_titleOf_2 : yX12_titleOf.cls ≠ "java/lang/invoke/MethodHandle" ∧ yX12_titleOf.cls ≠ "java/lang/invoke/VarHandle" ∧ (parseMethodDescriptor yX12_titleOf.desc).map (fun d => d.parameters.length) = some 2 := ⟨nec_RX12.1, nec_RX12.2, by decide +kernel⟩
theorem cd_yX11_feed_5 : yX11_feed.cls ≠ "java/lang/invoke/MethodHandle" ∧ yX11_feed.cls ≠ "java/lang/invoke/VarHandle" ∧ (parseMethodDescriptor yX11_feed.desc).map (fun d => d.parameters.length) = some 5 := ⟨nec_RX11.1, nec_RX11.2, by decide +kernel⟩
theorem cd_yX12_feed_5 : yX12_feed.cls ≠ "java/lang/invoke/MethodHandle" ∧ yX12_feed.cls ≠ "java/lang/invoke/VarHandle" ∧ (parseMethodDescriptor yX12_feed.desc).map (fun d => d.parameters.length) = some 5 := ⟨nec_RX12.1, nec_RX12.2, by decide +kernel⟩
theorem cd_yX11_end_1 : yX11_end.cls ≠ "java/lang/invoke/MethodHandle" ∧ yX11_end.cls ≠ "java/lang/invoke/VarHandle" ∧ (parseMethodDescriptor yX11_end.desc).map (fun d => d.parameters.length) = some 1 := ⟨nec_RX11.1, nec_RX11.2, by decide +kernel⟩
theorem cd_yX12_end_1 : yX12_end.cls ≠ "java/lang/invoke/MethodHandle" ∧ yX12_end.cls ≠ "java/lang/invoke/VarHandle" ∧ (parseMethodDescriptor yX12_end.desc).map (fun d => d.parameters.length) = some 1 := ⟨nec_RX12.1, nec_RX12.2, by decide +kernel⟩
theorem cd_yX11_text_0 : yX11_text.cls ≠ "java/lang/invoke/MethodHandle" ∧ yX11_text.cls ≠ "java/lang/invoke/VarHandle" ∧ (parseMethodDescriptor yX11_text.desc).map (fun d => d.parameters.length) = some 0 := ⟨nec_RX11.1, nec_RX11.2, by decide +kernel⟩
theorem cd_yX12_text_0 : yX12_text.cls ≠ "java/lang/invoke/MethodHandle" ∧ yX12_text.cls ≠ "java/lang/invoke/VarHandle" ∧ (parseMethodDescriptor yX12_text.desc).map (fun d => d.parameters.length) = some 0 := ⟨nec_RX12.1, nec_RX12.2, by decide +kernel⟩
theorem cd_yX11_fault_1 : yX11_fault.cls ≠ "java/lang/invoke/MethodHandle" ∧ yX11_fault.cls ≠ "java/lang/invoke/VarHandle" ∧ (parseMethodDescriptor yX11_fault.desc).map (fun d => d.parameters.length) = some 1 := ⟨nec_RX11.1, nec_RX11.2, by decide +kernel⟩
theorem cd_yX12_fault_1 : yX12_fault.cls ≠ "java/lang/invoke/MethodHandle" ∧ yX12_fault.cls ≠ "java/lang/invoke/VarHandle" ∧ (parseMethodDescriptor yX12_fault.desc).map (fun d => d.parameters.length) = some 1 := ⟨nec_RX12.1, nec_RX12.2, by decide +kernel⟩
theorem cd_yX11_force_3 : yX11_force.cls ≠ "java/lang/invoke/MethodHandle" ∧ yX11_force.cls ≠ "java/lang/invoke/VarHandle" ∧ (parseMethodDescriptor yX11_force.desc).map (fun d => d.parameters.length) = some 3 := ⟨nec_RX11.1, nec_RX11.2, by decide +kernel⟩
theorem cd_yX12_force_3 : yX12_force.cls ≠ "java/lang/invoke/MethodHandle" ∧ yX12_force.cls ≠ "java/lang/invoke/VarHandle" ∧ (parseMethodDescriptor yX12_force.desc).map (fun d => d.parameters.length) = some 3 := ⟨nec_RX12.1, nec_RX12.2, by decide +kernel⟩
theorem cd_yX11_is_3 : yX11_is.cls ≠ "java/lang/invoke/MethodHandle" ∧ yX11_is.cls ≠ "java/lang/invoke/VarHandle" ∧ (parseMethodDescriptor yX11_is.desc).map (fun d => d.parameters.length) = some 3 := ⟨nec_RX11.1, nec_RX11.2, by decide +kernel⟩
theorem cd_yX12_is_3 : yX12_is.cls ≠ "java/lang/invoke/MethodHandle" ∧ yX12_is.cls ≠ "java/lang/invoke/VarHandle" ∧ (parseMethodDescriptor yX12_is.desc).map (fun d => d.parameters.length) = some 3 := ⟨nec_RX12.1, nec_RX12.2, by decide +kernel⟩
theorem cd_yX11_why_3 : yX11_why.cls ≠ "java/lang/invoke/MethodHandle" ∧ yX11_why.cls ≠ "java/lang/invoke/VarHandle" ∧ (parseMethodDescriptor yX11_why.desc).map (fun d => d.parameters.length) = some 3 := ⟨nec_RX11.1, nec_RX11.2, by decide +kernel⟩
theorem cd_yX12_why_3 : yX12_why.cls ≠ "java/lang/invoke/MethodHandle" ∧ yX12_why.cls ≠ "java/lang/invoke/VarHandle" ∧ (parseMethodDescriptor yX12_why.desc).map (fun d => d.parameters.length) = some 3 := ⟨nec_RX12.1, nec_RX12.2, by decide +kernel⟩
theorem cd_yX11_says_2 : yX11_says.cls ≠ "java/lang/invoke/MethodHandle" ∧ yX11_says.cls ≠ "java/lang/invoke/VarHandle" ∧ (parseMethodDescriptor yX11_says.desc).map (fun d => d.parameters.length) = some 2 := ⟨nec_RX11.1, nec_RX11.2, by decide +kernel⟩
theorem cd_yX12_says_2 : yX12_says.cls ≠ "java/lang/invoke/MethodHandle" ∧ yX12_says.cls ≠ "java/lang/invoke/VarHandle" ∧ (parseMethodDescriptor yX12_says.desc).map (fun d => d.parameters.length) = some 2 := ⟨nec_RX12.1, nec_RX12.2, by decide +kernel⟩
theorem cd_yX11_sail_2 : yX11_sail.cls ≠ "java/lang/invoke/MethodHandle" ∧ yX11_sail.cls ≠ "java/lang/invoke/VarHandle" ∧ (parseMethodDescriptor yX11_sail.desc).map (fun d => d.parameters.length) = some 2 := ⟨nec_RX11.1, nec_RX11.2, by decide +kernel⟩
theorem cd_yX12_sail_2 : yX12_sail.cls ≠ "java/lang/invoke/MethodHandle" ∧ yX12_sail.cls ≠ "java/lang/invoke/VarHandle" ∧ (parseMethodDescriptor yX12_sail.desc).map (fun d => d.parameters.length) = some 2 := ⟨nec_RX12.1, nec_RX12.2, by decide +kernel⟩
theorem cd_yX11_months_2 : yX11_months.cls ≠ "java/lang/invoke/MethodHandle" ∧ yX11_months.cls ≠ "java/lang/invoke/VarHandle" ∧ (parseMethodDescriptor yX11_months.desc).map (fun d => d.parameters.length) = some 2 := ⟨nec_RX11.1, nec_RX11.2, by decide +kernel⟩
theorem cd_yX12_months_2 : yX12_months.cls ≠ "java/lang/invoke/MethodHandle" ∧ yX12_months.cls ≠ "java/lang/invoke/VarHandle" ∧ (parseMethodDescriptor yX12_months.desc).map (fun d => d.parameters.length) = some 2 := ⟨nec_RX12.1, nec_RX12.2, by decide +kernel⟩
theorem cd_yX11_cellOf_2 : yX11_cellOf.cls ≠ "java/lang/invoke/MethodHandle" ∧ yX11_cellOf.cls ≠ "java/lang/invoke/VarHandle" ∧ (parseMethodDescriptor yX11_cellOf.desc).map (fun d => d.parameters.length) = some 2 := ⟨nec_RX11.1, nec_RX11.2, by decide +kernel⟩
theorem cd_yX12_cellOf_2 : yX12_cellOf.cls ≠ "java/lang/invoke/MethodHandle" ∧ yX12_cellOf.cls ≠ "java/lang/invoke/VarHandle" ∧ (parseMethodDescriptor yX12_cellOf.desc).map (fun d => d.parameters.length) = some 2 := ⟨nec_RX12.1, nec_RX12.2, by decide +kernel⟩
theorem cd_yX11_personOf_2 : yX11_personOf.cls ≠ "java/lang/invoke/MethodHandle" ∧ yX11_personOf.cls ≠ "java/lang/invoke/VarHandle" ∧ (parseMethodDescriptor yX11_personOf.desc).map (fun d => d.parameters.length) = some 2 := ⟨nec_RX11.1, nec_RX11.2, by decide +kernel⟩
theorem cd_yX12_personOf_2 : yX12_personOf.cls ≠ "java/lang/invoke/MethodHandle" ∧ yX12_personOf.cls ≠ "java/lang/invoke/VarHandle" ∧ (parseMethodDescriptor yX12_personOf.desc).map (fun d => d.parameters.length) = some 2 := ⟨nec_RX12.1, nec_RX12.2, by decide +kernel⟩
theorem cd_yX11_at_1 : yX11_at.cls ≠ "java/lang/invoke/MethodHandle" ∧ yX11_at.cls ≠ "java/lang/invoke/VarHandle" ∧ (parseMethodDescriptor yX11_at.desc).map (fun d => d.parameters.length) = some 1 := ⟨nec_RX11.1, nec_RX11.2, by decide +kernel⟩
theorem cd_yX12_at_1 : yX12_at.cls ≠ "java/lang/invoke/MethodHandle" ∧ yX12_at.cls ≠ "java/lang/invoke/VarHandle" ∧ (parseMethodDescriptor yX12_at.desc).map (fun d => d.parameters.length) = some 1 := ⟨nec_RX12.1, nec_RX12.2, by decide +kernel⟩
theorem cd_yX11_area_0 : yX11_area.cls ≠ "java/lang/invoke/MethodHandle" ∧ yX11_area.cls ≠ "java/lang/invoke/VarHandle" ∧ (parseMethodDescriptor yX11_area.desc).map (fun d => d.parameters.length) = some 0 := ⟨nec_RX11.1, nec_RX11.2, by decide +kernel⟩
theorem cd_yX12_area_0 : yX12_area.cls ≠ "java/lang/invoke/MethodHandle" ∧ yX12_area.cls ≠ "java/lang/invoke/VarHandle" ∧ (parseMethodDescriptor yX12_area.desc).map (fun d => d.parameters.length) = some 0 := ⟨nec_RX12.1, nec_RX12.2, by decide +kernel⟩
theorem cd_yX11_choose_2 : yX11_choose.cls ≠ "java/lang/invoke/MethodHandle" ∧ yX11_choose.cls ≠ "java/lang/invoke/VarHandle" ∧ (parseMethodDescriptor yX11_choose.desc).map (fun d => d.parameters.length) = some 2 := ⟨nec_RX11.1, nec_RX11.2, by decide +kernel⟩
theorem cd_yX12_choose_2 : yX12_choose.cls ≠ "java/lang/invoke/MethodHandle" ∧ yX12_choose.cls ≠ "java/lang/invoke/VarHandle" ∧ (parseMethodDescriptor yX12_choose.desc).map (fun d => d.parameters.length) = some 2 := ⟨nec_RX12.1, nec_RX12.2, by decide +kernel⟩
theorem cd_yX11_council_1 : yX11_council.cls ≠ "java/lang/invoke/MethodHandle" ∧ yX11_council.cls ≠ "java/lang/invoke/VarHandle" ∧ (parseMethodDescriptor yX11_council.desc).map (fun d => d.parameters.length) = some 1 := ⟨nec_RX11.1, nec_RX11.2, by decide +kernel⟩
theorem cd_yX12_council_1 : yX12_council.cls ≠ "java/lang/invoke/MethodHandle" ∧ yX12_council.cls ≠ "java/lang/invoke/VarHandle" ∧ (parseMethodDescriptor yX12_council.desc).map (fun d => d.parameters.length) = some 1 := ⟨nec_RX12.1, nec_RX12.2, by decide +kernel⟩
theorem cd_yX11_sinks_3 : yX11_sinks.cls ≠ "java/lang/invoke/MethodHandle" ∧ yX11_sinks.cls ≠ "java/lang/invoke/VarHandle" ∧ (parseMethodDescriptor yX11_sinks.desc).map (fun d => d.parameters.length) = some 3 := ⟨nec_RX11.1, nec_RX11.2, by decide +kernel⟩
theorem cd_yX12_sinks_3 : yX12_sinks.cls ≠ "java/lang/invoke/MethodHandle" ∧ yX12_sinks.cls ≠ "java/lang/invoke/VarHandle" ∧ (parseMethodDescriptor yX12_sinks.desc).map (fun d => d.parameters.length) = some 3 := ⟨nec_RX12.1, nec_RX12.2, by decide +kernel⟩
theorem cd_yX11_cant_2 : yX11_cant.cls ≠ "java/lang/invoke/MethodHandle" ∧ yX11_cant.cls ≠ "java/lang/invoke/VarHandle" ∧ (parseMethodDescriptor yX11_cant.desc).map (fun d => d.parameters.length) = some 2 := ⟨nec_RX11.1, nec_RX11.2, by decide +kernel⟩
theorem cd_yX12_cant_2 : yX12_cant.cls ≠ "java/lang/invoke/MethodHandle" ∧ yX12_cant.cls ≠ "java/lang/invoke/VarHandle" ∧ (parseMethodDescriptor yX12_cant.desc).map (fun d => d.parameters.length) = some 2 := ⟨nec_RX12.1, nec_RX12.2, by decide +kernel⟩
theorem cd_yX11_keeps_4 : yX11_keeps.cls ≠ "java/lang/invoke/MethodHandle" ∧ yX11_keeps.cls ≠ "java/lang/invoke/VarHandle" ∧ (parseMethodDescriptor yX11_keeps.desc).map (fun d => d.parameters.length) = some 4 := ⟨nec_RX11.1, nec_RX11.2, by decide +kernel⟩
theorem cd_yX12_keeps_4 : yX12_keeps.cls ≠ "java/lang/invoke/MethodHandle" ∧ yX12_keeps.cls ≠ "java/lang/invoke/VarHandle" ∧ (parseMethodDescriptor yX12_keeps.desc).map (fun d => d.parameters.length) = some 4 := ⟨nec_RX12.1, nec_RX12.2, by decide +kernel⟩
theorem cd_yX11_order_3 : yX11_order.cls ≠ "java/lang/invoke/MethodHandle" ∧ yX11_order.cls ≠ "java/lang/invoke/VarHandle" ∧ (parseMethodDescriptor yX11_order.desc).map (fun d => d.parameters.length) = some 3 := ⟨nec_RX11.1, nec_RX11.2, by decide +kernel⟩
theorem cd_yX12_order_3 : yX12_order.cls ≠ "java/lang/invoke/MethodHandle" ∧ yX12_order.cls ≠ "java/lang/invoke/VarHandle" ∧ (parseMethodDescriptor yX12_order.desc).map (fun d => d.parameters.length) = some 3 := ⟨nec_RX12.1, nec_RX12.2, by decide +kernel⟩
theorem cd_yX11_grave_1 : yX11_grave.cls ≠ "java/lang/invoke/MethodHandle" ∧ yX11_grave.cls ≠ "java/lang/invoke/VarHandle" ∧ (parseMethodDescriptor yX11_grave.desc).map (fun d => d.parameters.length) = some 1 := ⟨nec_RX11.1, nec_RX11.2, by decide +kernel⟩
theorem cd_yX12_grave_1 : yX12_grave.cls ≠ "java/lang/invoke/MethodHandle" ∧ yX12_grave.cls ≠ "java/lang/invoke/VarHandle" ∧ (parseMethodDescriptor yX12_grave.desc).map (fun d => d.parameters.length) = some 1 := ⟨nec_RX12.1, nec_RX12.2, by decide +kernel⟩
theorem cd_yX11_bury_2 : yX11_bury.cls ≠ "java/lang/invoke/MethodHandle" ∧ yX11_bury.cls ≠ "java/lang/invoke/VarHandle" ∧ (parseMethodDescriptor yX11_bury.desc).map (fun d => d.parameters.length) = some 2 := ⟨nec_RX11.1, nec_RX11.2, by decide +kernel⟩
theorem cd_yX12_bury_2 : yX12_bury.cls ≠ "java/lang/invoke/MethodHandle" ∧ yX12_bury.cls ≠ "java/lang/invoke/VarHandle" ∧ (parseMethodDescriptor yX12_bury.desc).map (fun d => d.parameters.length) = some 2 := ⟨nec_RX12.1, nec_RX12.2, by decide +kernel⟩
theorem cd_yX11_found_2 : yX11_found.cls ≠ "java/lang/invoke/MethodHandle" ∧ yX11_found.cls ≠ "java/lang/invoke/VarHandle" ∧ (parseMethodDescriptor yX11_found.desc).map (fun d => d.parameters.length) = some 2 := ⟨nec_RX11.1, nec_RX11.2, by decide +kernel⟩
theorem cd_yX12_found_2 : yX12_found.cls ≠ "java/lang/invoke/MethodHandle" ∧ yX12_found.cls ≠ "java/lang/invoke/VarHandle" ∧ (parseMethodDescriptor yX12_found.desc).map (fun d => d.parameters.length) = some 2 := ⟨nec_RX12.1, nec_RX12.2, by decide +kernel⟩
theorem cd_yX11_image_0 : yX11_image.cls ≠ "java/lang/invoke/MethodHandle" ∧ yX11_image.cls ≠ "java/lang/invoke/VarHandle" ∧ (parseMethodDescriptor yX11_image.desc).map (fun d => d.parameters.length) = some 0 := ⟨nec_RX11.1, nec_RX11.2, by decide +kernel⟩
theorem cd_yX12_image_0 : yX12_image.cls ≠ "java/lang/invoke/MethodHandle" ∧ yX12_image.cls ≠ "java/lang/invoke/VarHandle" ∧ (parseMethodDescriptor yX12_image.desc).map (fun d => d.parameters.length) = some 0 := ⟨nec_RX12.1, nec_RX12.2, by decide +kernel⟩
theorem cd_yX11_back_0 : yX11_back.cls ≠ "java/lang/invoke/MethodHandle" ∧ yX11_back.cls ≠ "java/lang/invoke/VarHandle" ∧ (parseMethodDescriptor yX11_back.desc).map (fun d => d.parameters.length) = some 0 := ⟨nec_RX11.1, nec_RX11.2, by decide +kernel⟩
theorem cd_yX12_back_0 : yX12_back.cls ≠ "java/lang/invoke/MethodHandle" ∧ yX12_back.cls ≠ "java/lang/invoke/VarHandle" ∧ (parseMethodDescriptor yX12_back.desc).map (fun d => d.parameters.length) = some 0 := ⟨nec_RX12.1, nec_RX12.2, by decide +kernel⟩
theorem cd_yX11_about_1 : yX11_about.cls ≠ "java/lang/invoke/MethodHandle" ∧ yX11_about.cls ≠ "java/lang/invoke/VarHandle" ∧ (parseMethodDescriptor yX11_about.desc).map (fun d => d.parameters.length) = some 1 := ⟨nec_RX11.1, nec_RX11.2, by decide +kernel⟩
theorem cd_yX12_about_1 : yX12_about.cls ≠ "java/lang/invoke/MethodHandle" ∧ yX12_about.cls ≠ "java/lang/invoke/VarHandle" ∧ (parseMethodDescriptor yX12_about.desc).map (fun d => d.parameters.length) = some 1 := ⟨nec_RX12.1, nec_RX12.2, by decide +kernel⟩
theorem cd_yX11_init_0 : yX11_init.cls ≠ "java/lang/invoke/MethodHandle" ∧ yX11_init.cls ≠ "java/lang/invoke/VarHandle" ∧ (parseMethodDescriptor yX11_init.desc).map (fun d => d.parameters.length) = some 0 := ⟨nec_RX11.1, nec_RX11.2, by decide +kernel⟩
theorem cd_yX12_init_0 : yX12_init.cls ≠ "java/lang/invoke/MethodHandle" ∧ yX12_init.cls ≠ "java/lang/invoke/VarHandle" ∧ (parseMethodDescriptor yX12_init.desc).map (fun d => d.parameters.length) = some 0 := ⟨nec_RX12.1, nec_RX12.2, by decide +kernel⟩
theorem cv_yX0_isOnRing_1 : yX0_isOnRing.cls = RX0 ∧ yX0_isOnRing.cls ≠ "java/lang/invoke/MethodHandle" ∧ yX0_isOnRing.cls ≠ "java/lang/invoke/VarHandle" ∧ (parseMethodDescriptor yX0_isOnRing.desc).map (fun d => d.parameters.length) = some 1 := ⟨rfl, cd_yX0_isOnRing_1⟩
theorem cv_yX0_countAt_1 : yX0_countAt.cls = RX0 ∧ yX0_countAt.cls ≠ "java/lang/invoke/MethodHandle" ∧ yX0_countAt.cls ≠ "java/lang/invoke/VarHandle" ∧ (parseMethodDescriptor yX0_countAt.desc).map (fun d => d.parameters.length) = some 1 := ⟨rfl, cd_yX0_countAt_1⟩
theorem cv_yX9_isAt_1 : yX9_isAt.cls = RX9 ∧ yX9_isAt.cls ≠ "java/lang/invoke/MethodHandle" ∧ yX9_isAt.cls ≠ "java/lang/invoke/VarHandle" ∧ (parseMethodDescriptor yX9_isAt.desc).map (fun d => d.parameters.length) = some 1 := ⟨rfl, cd_yX9_isAt_1⟩
theorem cv_yX9_isSweet_1 : yX9_isSweet.cls = RX9 ∧ yX9_isSweet.cls ≠ "java/lang/invoke/MethodHandle" ∧ yX9_isSweet.cls ≠ "java/lang/invoke/VarHandle" ∧ (parseMethodDescriptor yX9_isSweet.desc).map (fun d => d.parameters.length) = some 1 := ⟨rfl, cd_yX9_isSweet_1⟩
theorem cv_yX2_sweetFrom_1 : yX2_sweetFrom.cls = RX2 ∧ yX2_sweetFrom.cls ≠ "java/lang/invoke/MethodHandle" ∧ yX2_sweetFrom.cls ≠ "java/lang/invoke/VarHandle" ∧ (parseMethodDescriptor yX2_sweetFrom.desc).map (fun d => d.parameters.length) = some 1 := ⟨rfl, cd_yX2_sweetFrom_1⟩
theorem cv_yX0_groupOf_1 : yX0_groupOf.cls = RX0 ∧ yX0_groupOf.cls ≠ "java/lang/invoke/MethodHandle" ∧ yX0_groupOf.cls ≠ "java/lang/invoke/VarHandle" ∧ (parseMethodDescriptor yX0_groupOf.desc).map (fun d => d.parameters.length) = some 1 := ⟨rfl, cd_yX0_groupOf_1⟩
theorem cv_yX9_copyFrom_1 : yX9_copyFrom.cls = RX9 ∧ yX9_copyFrom.cls ≠ "java/lang/invoke/MethodHandle" ∧ yX9_copyFrom.cls ≠ "java/lang/invoke/VarHandle" ∧ (parseMethodDescriptor yX9_copyFrom.desc).map (fun d => d.parameters.length) = some 1 := ⟨rfl, cd_yX9_copyFrom_1⟩
theorem cv_yX2_joinRing_2 : yX2_joinRing.cls = RX2 ∧ yX2_joinRing.cls ≠ "java/lang/invoke/MethodHandle" ∧ yX2_joinRing.cls ≠ "java/lang/invoke/VarHandle" ∧ (parseMethodDescriptor yX2_joinRing.desc).map (fun d => d.parameters.length) = some 2 := ⟨rfl, cd_yX2_joinRing_2⟩
theorem cv_yX2_topOf_1 : yX2_topOf.cls = RX2 ∧ yX2_topOf.cls ≠ "java/lang/invoke/MethodHandle" ∧ yX2_topOf.cls ≠ "java/lang/invoke/VarHandle" ∧ (parseMethodDescriptor yX2_topOf.desc).map (fun d => d.parameters.length) = some 1 := ⟨rfl, cd_yX2_topOf_1⟩
theorem cv_yX2_isDry_1 : yX2_isDry.cls = RX2 ∧ yX2_isDry.cls ≠ "java/lang/invoke/MethodHandle" ∧ yX2_isDry.cls ≠ "java/lang/invoke/VarHandle" ∧ (parseMethodDescriptor yX2_isDry.desc).map (fun d => d.parameters.length) = some 1 := ⟨rfl, cd_yX2_isDry_1⟩
theorem cv_yX2_measure_1 : yX2_measure.cls = RX2 ∧ yX2_measure.cls ≠ "java/lang/invoke/MethodHandle" ∧ yX2_measure.cls ≠ "java/lang/invoke/VarHandle" ∧ (parseMethodDescriptor yX2_measure.desc).map (fun d => d.parameters.length) = some 1 := ⟨rfl, cd_yX2_measure_1⟩
theorem cv_yX2_mark_3 : yX2_mark.cls = RX2 ∧ yX2_mark.cls ≠ "java/lang/invoke/MethodHandle" ∧ yX2_mark.cls ≠ "java/lang/invoke/VarHandle" ∧ (parseMethodDescriptor yX2_mark.desc).map (fun d => d.parameters.length) = some 3 := ⟨rfl, cd_yX2_mark_3⟩
theorem cv_yX8_firstOf_1 : yX8_firstOf.cls = RX8 ∧ yX8_firstOf.cls ≠ "java/lang/invoke/MethodHandle" ∧ yX8_firstOf.cls ≠ "java/lang/invoke/VarHandle" ∧ (parseMethodDescriptor yX8_firstOf.desc).map (fun d => d.parameters.length) = some 1 := ⟨rfl, cd_yX8_firstOf_1⟩
theorem cv_yX3_textFor_2 : yX3_textFor.cls = RX3 ∧ yX3_textFor.cls ≠ "java/lang/invoke/MethodHandle" ∧ yX3_textFor.cls ≠ "java/lang/invoke/VarHandle" ∧ (parseMethodDescriptor yX3_textFor.desc).map (fun d => d.parameters.length) = some 2 := ⟨rfl, cd_yX3_textFor_2⟩
theorem cv_yX8_numberOf_2 : yX8_numberOf.cls = RX8 ∧ yX8_numberOf.cls ≠ "java/lang/invoke/MethodHandle" ∧ yX8_numberOf.cls ≠ "java/lang/invoke/VarHandle" ∧ (parseMethodDescriptor yX8_numberOf.desc).map (fun d => d.parameters.length) = some 2 := ⟨rfl, cd_yX8_numberOf_2⟩
theorem cv_yX3_numberIn_3 : yX3_numberIn.cls = RX3 ∧ yX3_numberIn.cls ≠ "java/lang/invoke/MethodHandle" ∧ yX3_numberIn.cls ≠ "java/lang/invoke/VarHandle" ∧ (parseMethodDescriptor yX3_numberIn.desc).map (fun d => d.parameters.length) = some 3 := ⟨rfl, cd_yX3_numberIn_3⟩
theorem cv_yX0_valueOf_3 : yX0_valueOf.cls = RX0 ∧ yX0_valueOf.cls ≠ "java/lang/invoke/MethodHandle" ∧ yX0_valueOf.cls ≠ "java/lang/invoke/VarHandle" ∧ (parseMethodDescriptor yX0_valueOf.desc).map (fun d => d.parameters.length) = some 3 := ⟨rfl, cd_yX0_valueOf_3⟩
theorem cv_yX8_work_3 : yX8_work.cls = RX8 ∧ yX8_work.cls ≠ "java/lang/invoke/MethodHandle" ∧ yX8_work.cls ≠ "java/lang/invoke/VarHandle" ∧ (parseMethodDescriptor yX8_work.desc).map (fun d => d.parameters.length) = some 3 := ⟨rfl, cd_yX8_work_3⟩
theorem cv_yX3_nameAll_4 : yX3_nameAll.cls = RX3 ∧ yX3_nameAll.cls ≠ "java/lang/invoke/MethodHandle" ∧ yX3_nameAll.cls ≠ "java/lang/invoke/VarHandle" ∧ (parseMethodDescriptor yX3_nameAll.desc).map (fun d => d.parameters.length) = some 4 := ⟨rfl, cd_yX3_nameAll_4⟩
theorem cv_yX8_firstSo_3 : yX8_firstSo.cls = RX8 ∧ yX8_firstSo.cls ≠ "java/lang/invoke/MethodHandle" ∧ yX8_firstSo.cls ≠ "java/lang/invoke/VarHandle" ∧ (parseMethodDescriptor yX8_firstSo.desc).map (fun d => d.parameters.length) = some 3 := ⟨rfl, cd_yX8_firstSo_3⟩
theorem cv_yX7_known_3 : yX7_known.cls = RX7 ∧ yX7_known.cls ≠ "java/lang/invoke/MethodHandle" ∧ yX7_known.cls ≠ "java/lang/invoke/VarHandle" ∧ (parseMethodDescriptor yX7_known.desc).map (fun d => d.parameters.length) = some 3 := ⟨rfl, cd_yX7_known_3⟩
theorem cv_yX2_growReef_1 : yX2_growReef.cls = RX2 ∧ yX2_growReef.cls ≠ "java/lang/invoke/MethodHandle" ∧ yX2_growReef.cls ≠ "java/lang/invoke/VarHandle" ∧ (parseMethodDescriptor yX2_growReef.desc).map (fun d => d.parameters.length) = some 1 := ⟨rfl, cd_yX2_growReef_1⟩
theorem cv_yX2_walk_1 : yX2_walk.cls = RX2 ∧ yX2_walk.cls ≠ "java/lang/invoke/MethodHandle" ∧ yX2_walk.cls ≠ "java/lang/invoke/VarHandle" ∧ (parseMethodDescriptor yX2_walk.desc).map (fun d => d.parameters.length) = some 1 := ⟨rfl, cd_yX2_walk_1⟩
theorem cv_yX2_tide_3 : yX2_tide.cls = RX2 ∧ yX2_tide.cls ≠ "java/lang/invoke/MethodHandle" ∧ yX2_tide.cls ≠ "java/lang/invoke/VarHandle" ∧ (parseMethodDescriptor yX2_tide.desc).map (fun d => d.parameters.length) = some 3 := ⟨rfl, cd_yX2_tide_3⟩
theorem cv_yX2_giveUpBeds_0 : yX2_giveUpBeds.cls = RX2 ∧ yX2_giveUpBeds.cls ≠ "java/lang/invoke/MethodHandle" ∧ yX2_giveUpBeds.cls ≠ "java/lang/invoke/VarHandle" ∧ (parseMethodDescriptor yX2_giveUpBeds.desc).map (fun d => d.parameters.length) = some 0 := ⟨rfl, cd_yX2_giveUpBeds_0⟩
theorem cv_yX0_onRings_0 : yX0_onRings.cls = RX0 ∧ yX0_onRings.cls ≠ "java/lang/invoke/MethodHandle" ∧ yX0_onRings.cls ≠ "java/lang/invoke/VarHandle" ∧ (parseMethodDescriptor yX0_onRings.desc).map (fun d => d.parameters.length) = some 0 := ⟨rfl, cd_yX0_onRings_0⟩
theorem cv_yX10_nature_1 : yX10_nature.cls = RX10 ∧ yX10_nature.cls ≠ "java/lang/invoke/MethodHandle" ∧ yX10_nature.cls ≠ "java/lang/invoke/VarHandle" ∧ (parseMethodDescriptor yX10_nature.desc).map (fun d => d.parameters.length) = some 1 := ⟨rfl, cd_yX10_nature_1⟩
theorem cv_yX2_countBeds_2 : yX2_countBeds.cls = RX2 ∧ yX2_countBeds.cls ≠ "java/lang/invoke/MethodHandle" ∧ yX2_countBeds.cls ≠ "java/lang/invoke/VarHandle" ∧ (parseMethodDescriptor yX2_countBeds.desc).map (fun d => d.parameters.length) = some 2 := ⟨rfl, cd_yX2_countBeds_2⟩
theorem cv_yX3_whoIsSo_4 : yX3_whoIsSo.cls = RX3 ∧ yX3_whoIsSo.cls ≠ "java/lang/invoke/MethodHandle" ∧ yX3_whoIsSo.cls ≠ "java/lang/invoke/VarHandle" ∧ (parseMethodDescriptor yX3_whoIsSo.desc).map (fun d => d.parameters.length) = some 4 := ⟨rfl, cd_yX3_whoIsSo_4⟩
theorem cv_yX0_countGroups_1 : yX0_countGroups.cls = RX0 ∧ yX0_countGroups.cls ≠ "java/lang/invoke/MethodHandle" ∧ yX0_countGroups.cls ≠ "java/lang/invoke/VarHandle" ∧ (parseMethodDescriptor yX0_countGroups.desc).map (fun d => d.parameters.length) = some 1 := ⟨rfl, cd_yX0_countGroups_1⟩
theorem cv_yX0_takeLot_1 : yX0_takeLot.cls = RX0 ∧ yX0_takeLot.cls ≠ "java/lang/invoke/MethodHandle" ∧ yX0_takeLot.cls ≠ "java/lang/invoke/VarHandle" ∧ (parseMethodDescriptor yX0_takeLot.desc).map (fun d => d.parameters.length) = some 1 := ⟨rfl, cd_yX0_takeLot_1⟩
theorem cv_yX0_freeBeds_1 : yX0_freeBeds.cls = RX0 ∧ yX0_freeBeds.cls ≠ "java/lang/invoke/MethodHandle" ∧ yX0_freeBeds.cls ≠ "java/lang/invoke/VarHandle" ∧ (parseMethodDescriptor yX0_freeBeds.desc).map (fun d => d.parameters.length) = some 1 := ⟨rfl, cd_yX0_freeBeds_1⟩
theorem cv_yX5_lineUp_2 : yX5_lineUp.cls = RX5 ∧ yX5_lineUp.cls ≠ "java/lang/invoke/MethodHandle" ∧ yX5_lineUp.cls ≠ "java/lang/invoke/VarHandle" ∧ (parseMethodDescriptor yX5_lineUp.desc).map (fun d => d.parameters.length) = some 2 := ⟨rfl, cd_yX5_lineUp_2⟩
theorem cv_yX9_fillUp_3 : yX9_fillUp.cls = RX9 ∧ yX9_fillUp.cls ≠ "java/lang/invoke/MethodHandle" ∧ yX9_fillUp.cls ≠ "java/lang/invoke/VarHandle" ∧ (parseMethodDescriptor yX9_fillUp.desc).map (fun d => d.parameters.length) = some 3 := ⟨rfl, cd_yX9_fillUp_3⟩
theorem cv_yX0_drink_1 : yX0_drink.cls = RX0 ∧ yX0_drink.cls ≠ "java/lang/invoke/MethodHandle" ∧ yX0_drink.cls ≠ "java/lang/invoke/VarHandle" ∧ (parseMethodDescriptor yX0_drink.desc).map (fun d => d.parameters.length) = some 1 := ⟨rfl, cd_yX0_drink_1⟩
theorem cv_yX0_sleep_2 : yX0_sleep.cls = RX0 ∧ yX0_sleep.cls ≠ "java/lang/invoke/MethodHandle" ∧ yX0_sleep.cls ≠ "java/lang/invoke/VarHandle" ∧ (parseMethodDescriptor yX0_sleep.desc).map (fun d => d.parameters.length) = some 2 := ⟨rfl, cd_yX0_sleep_2⟩
theorem cv_yX0_board_5 : yX0_board.cls = RX0 ∧ yX0_board.cls ≠ "java/lang/invoke/MethodHandle" ∧ yX0_board.cls ≠ "java/lang/invoke/VarHandle" ∧ (parseMethodDescriptor yX0_board.desc).map (fun d => d.parameters.length) = some 5 := ⟨rfl, cd_yX0_board_5⟩
theorem cv_yX5_swap_2 : yX5_swap.cls = RX5 ∧ yX5_swap.cls ≠ "java/lang/invoke/MethodHandle" ∧ yX5_swap.cls ≠ "java/lang/invoke/VarHandle" ∧ (parseMethodDescriptor yX5_swap.desc).map (fun d => d.parameters.length) = some 2 := ⟨rfl, cd_yX5_swap_2⟩
theorem cv_yX5_foresee_3 : yX5_foresee.cls = RX5 ∧ yX5_foresee.cls ≠ "java/lang/invoke/MethodHandle" ∧ yX5_foresee.cls ≠ "java/lang/invoke/VarHandle" ∧ (parseMethodDescriptor yX5_foresee.desc).map (fun d => d.parameters.length) = some 3 := ⟨rfl, cd_yX5_foresee_3⟩
theorem cv_yX5_lacksOf_3 : yX5_lacksOf.cls = RX5 ∧ yX5_lacksOf.cls ≠ "java/lang/invoke/MethodHandle" ∧ yX5_lacksOf.cls ≠ "java/lang/invoke/VarHandle" ∧ (parseMethodDescriptor yX5_lacksOf.desc).map (fun d => d.parameters.length) = some 3 := ⟨rfl, cd_yX5_lacksOf_3⟩
theorem cv_yX5_toNextOrder_1 : yX5_toNextOrder.cls = RX5 ∧ yX5_toNextOrder.cls ≠ "java/lang/invoke/MethodHandle" ∧ yX5_toNextOrder.cls ≠ "java/lang/invoke/VarHandle" ∧ (parseMethodDescriptor yX5_toNextOrder.desc).map (fun d => d.parameters.length) = some 1 := ⟨rfl, cd_yX5_toNextOrder_1⟩
theorem cv_yX7_copyFrom_1 : yX7_copyFrom.cls = RX7 ∧ yX7_copyFrom.cls ≠ "java/lang/invoke/MethodHandle" ∧ yX7_copyFrom.cls ≠ "java/lang/invoke/VarHandle" ∧ (parseMethodDescriptor yX7_copyFrom.desc).map (fun d => d.parameters.length) = some 1 := ⟨rfl, cd_yX7_copyFrom_1⟩
theorem cv_yX2_copyFrom_1 : yX2_copyFrom.cls = RX2 ∧ yX2_copyFrom.cls ≠ "java/lang/invoke/MethodHandle" ∧ yX2_copyFrom.cls ≠ "java/lang/invoke/VarHandle" ∧ (parseMethodDescriptor yX2_copyFrom.desc).map (fun d => d.parameters.length) = some 1 := ⟨rfl, cd_yX2_copyFrom_1⟩
theorem cv_yX0_copyFrom_1 : yX0_copyFrom.cls = RX0 ∧ yX0_copyFrom.cls ≠ "java/lang/invoke/MethodHandle" ∧ yX0_copyFrom.cls ≠ "java/lang/invoke/VarHandle" ∧ (parseMethodDescriptor yX0_copyFrom.desc).map (fun d => d.parameters.length) = some 1 := ⟨rfl, cd_yX0_copyFrom_1⟩
theorem cv_yX3_copyFrom_1 : yX3_copyFrom.cls = RX3 ∧ yX3_copyFrom.cls ≠ "java/lang/invoke/MethodHandle" ∧ yX3_copyFrom.cls ≠ "java/lang/invoke/VarHandle" ∧ (parseMethodDescriptor yX3_copyFrom.desc).map (fun d => d.parameters.length) = some 1 := ⟨rfl, cd_yX3_copyFrom_1⟩
theorem cv_yX1_copyFrom_1 : yX1_copyFrom.cls = RX1 ∧ yX1_copyFrom.cls ≠ "java/lang/invoke/MethodHandle" ∧ yX1_copyFrom.cls ≠ "java/lang/invoke/VarHandle" ∧ (parseMethodDescriptor yX1_copyFrom.desc).map (fun d => d.parameters.length) = some 1 := ⟨rfl, cd_yX1_copyFrom_1⟩
theorem cv_yX3_fixIn_1 : yX3_fixIn.cls = RX3 ∧ yX3_fixIn.cls ≠ "java/lang/invoke/MethodHandle" ∧ yX3_fixIn.cls ≠ "java/lang/invoke/VarHandle" ∧ (parseMethodDescriptor yX3_fixIn.desc).map (fun d => d.parameters.length) = some 1 := ⟨rfl, cd_yX3_fixIn_1⟩
theorem cv_yX2_countArea_2 : yX2_countArea.cls = RX2 ∧ yX2_countArea.cls ≠ "java/lang/invoke/MethodHandle" ∧ yX2_countArea.cls ≠ "java/lang/invoke/VarHandle" ∧ (parseMethodDescriptor yX2_countArea.desc).map (fun d => d.parameters.length) = some 2 := ⟨rfl, cd_yX2_countArea_2⟩
theorem cv_yX0_sendings_0 : yX0_sendings.cls = RX0 ∧ yX0_sendings.cls ≠ "java/lang/invoke/MethodHandle" ∧ yX0_sendings.cls ≠ "java/lang/invoke/VarHandle" ∧ (parseMethodDescriptor yX0_sendings.desc).map (fun d => d.parameters.length) = some 0 := ⟨rfl, cd_yX0_sendings_0⟩
theorem cv_yX3_leaveIn_1 : yX3_leaveIn.cls = RX3 ∧ yX3_leaveIn.cls ≠ "java/lang/invoke/MethodHandle" ∧ yX3_leaveIn.cls ≠ "java/lang/invoke/VarHandle" ∧ (parseMethodDescriptor yX3_leaveIn.desc).map (fun d => d.parameters.length) = some 1 := ⟨rfl, cd_yX3_leaveIn_1⟩
theorem cv_yX2_countWalls_0 : yX2_countWalls.cls = RX2 ∧ yX2_countWalls.cls ≠ "java/lang/invoke/MethodHandle" ∧ yX2_countWalls.cls ≠ "java/lang/invoke/VarHandle" ∧ (parseMethodDescriptor yX2_countWalls.desc).map (fun d => d.parameters.length) = some 0 := ⟨rfl, cd_yX2_countWalls_0⟩
theorem cv_yX8_isAhead_4 : yX8_isAhead.cls = RX8 ∧ yX8_isAhead.cls ≠ "java/lang/invoke/MethodHandle" ∧ yX8_isAhead.cls ≠ "java/lang/invoke/VarHandle" ∧ (parseMethodDescriptor yX8_isAhead.desc).map (fun d => d.parameters.length) = some 4 := ⟨rfl, cd_yX8_isAhead_4⟩
theorem cv_yX10_reckon_0 : yX10_reckon.cls = RX10 ∧ yX10_reckon.cls ≠ "java/lang/invoke/MethodHandle" ∧ yX10_reckon.cls ≠ "java/lang/invoke/VarHandle" ∧ (parseMethodDescriptor yX10_reckon.desc).map (fun d => d.parameters.length) = some 0 := ⟨rfl, cd_yX10_reckon_0⟩
theorem cv_yX3_line_4 : yX3_line.cls = RX3 ∧ yX3_line.cls ≠ "java/lang/invoke/MethodHandle" ∧ yX3_line.cls ≠ "java/lang/invoke/VarHandle" ∧ (parseMethodDescriptor yX3_line.desc).map (fun d => d.parameters.length) = some 4 := ⟨rfl, cd_yX3_line_4⟩
theorem cv_yX10_wasDry_1 : yX10_wasDry.cls = RX10 ∧ yX10_wasDry.cls ≠ "java/lang/invoke/MethodHandle" ∧ yX10_wasDry.cls ≠ "java/lang/invoke/VarHandle" ∧ (parseMethodDescriptor yX10_wasDry.desc).map (fun d => d.parameters.length) = some 1 := ⟨rfl, cd_yX10_wasDry_1⟩
theorem cv_yX3_lastsFor_4 : yX3_lastsFor.cls = RX3 ∧ yX3_lastsFor.cls ≠ "java/lang/invoke/MethodHandle" ∧ yX3_lastsFor.cls ≠ "java/lang/invoke/VarHandle" ∧ (parseMethodDescriptor yX3_lastsFor.desc).map (fun d => d.parameters.length) = some 4 := ⟨rfl, cd_yX3_lastsFor_4⟩
theorem cv_yX0_notDead_0 : yX0_notDead.cls = RX0 ∧ yX0_notDead.cls ≠ "java/lang/invoke/MethodHandle" ∧ yX0_notDead.cls ≠ "java/lang/invoke/VarHandle" ∧ (parseMethodDescriptor yX0_notDead.desc).map (fun d => d.parameters.length) = some 0 := ⟨rfl, cd_yX0_notDead_0⟩
theorem cv_yX3_councilIn_1 : yX3_councilIn.cls = RX3 ∧ yX3_councilIn.cls ≠ "java/lang/invoke/MethodHandle" ∧ yX3_councilIn.cls ≠ "java/lang/invoke/VarHandle" ∧ (parseMethodDescriptor yX3_councilIn.desc).map (fun d => d.parameters.length) = some 1 := ⟨rfl, cd_yX3_councilIn_1⟩
theorem cv_yX0_countVotes_2 : yX0_countVotes.cls = RX0 ∧ yX0_countVotes.cls ≠ "java/lang/invoke/MethodHandle" ∧ yX0_countVotes.cls ≠ "java/lang/invoke/VarHandle" ∧ (parseMethodDescriptor yX0_countVotes.desc).map (fun d => d.parameters.length) = some 2 := ⟨rfl, cd_yX0_countVotes_2⟩
theorem cv_yX11_isRing_1 : yX11_isRing.cls = RX11 ∧ yX11_isRing.cls ≠ "java/lang/invoke/MethodHandle" ∧ yX11_isRing.cls ≠ "java/lang/invoke/VarHandle" ∧ (parseMethodDescriptor yX11_isRing.desc).map (fun d => d.parameters.length) = some 1 := ⟨rfl, cd_yX11_isRing_1⟩
theorem cv_yX2_addCell_6 : yX2_addCell.cls = RX2 ∧ yX2_addCell.cls ≠ "java/lang/invoke/MethodHandle" ∧ yX2_addCell.cls ≠ "java/lang/invoke/VarHandle" ∧ (parseMethodDescriptor yX2_addCell.desc).map (fun d => d.parameters.length) = some 6 := ⟨rfl, cd_yX2_addCell_6⟩
theorem cv_yX7_tell_4 : yX7_tell.cls = RX7 ∧ yX7_tell.cls ≠ "java/lang/invoke/MethodHandle" ∧ yX7_tell.cls ≠ "java/lang/invoke/VarHandle" ∧ (parseMethodDescriptor yX7_tell.desc).map (fun d => d.parameters.length) = some 4 := ⟨rfl, cd_yX7_tell_4⟩
theorem cv_yX11_isCell_1 : yX11_isCell.cls = RX11 ∧ yX11_isCell.cls ≠ "java/lang/invoke/MethodHandle" ∧ yX11_isCell.cls ≠ "java/lang/invoke/VarHandle" ∧ (parseMethodDescriptor yX11_isCell.desc).map (fun d => d.parameters.length) = some 1 := ⟨rfl, cd_yX11_isCell_1⟩
theorem cv_yX9_dig_4 : yX9_dig.cls = RX9 ∧ yX9_dig.cls ≠ "java/lang/invoke/MethodHandle" ∧ yX9_dig.cls ≠ "java/lang/invoke/VarHandle" ∧ (parseMethodDescriptor yX9_dig.desc).map (fun d => d.parameters.length) = some 4 := ⟨rfl, cd_yX9_dig_4⟩
theorem cv_yX0_addPerson_5 : yX0_addPerson.cls = RX0 ∧ yX0_addPerson.cls ≠ "java/lang/invoke/MethodHandle" ∧ yX0_addPerson.cls ≠ "java/lang/invoke/VarHandle" ∧ (parseMethodDescriptor yX0_addPerson.desc).map (fun d => d.parameters.length) = some 5 := ⟨rfl, cd_yX0_addPerson_5⟩
theorem cv_yX11_isPerson_1 : yX11_isPerson.cls = RX11 ∧ yX11_isPerson.cls ≠ "java/lang/invoke/MethodHandle" ∧ yX11_isPerson.cls ≠ "java/lang/invoke/VarHandle" ∧ (parseMethodDescriptor yX11_isPerson.desc).map (fun d => d.parameters.length) = some 1 := ⟨rfl, cd_yX11_isPerson_1⟩
theorem cv_yX11_isLot_1 : yX11_isLot.cls = RX11 ∧ yX11_isLot.cls ≠ "java/lang/invoke/MethodHandle" ∧ yX11_isLot.cls ≠ "java/lang/invoke/VarHandle" ∧ (parseMethodDescriptor yX11_isLot.desc).map (fun d => d.parameters.length) = some 1 := ⟨rfl, cd_yX11_isLot_1⟩
theorem cv_yX10_heirOf_1 : yX10_heirOf.cls = RX10 ∧ yX10_heirOf.cls ≠ "java/lang/invoke/MethodHandle" ∧ yX10_heirOf.cls ≠ "java/lang/invoke/VarHandle" ∧ (parseMethodDescriptor yX10_heirOf.desc).map (fun d => d.parameters.length) = some 1 := ⟨rfl, cd_yX10_heirOf_1⟩
theorem cv_yX10_passTitles_2 : yX10_passTitles.cls = RX10 ∧ yX10_passTitles.cls ≠ "java/lang/invoke/MethodHandle" ∧ yX10_passTitles.cls ≠ "java/lang/invoke/VarHandle" ∧ (parseMethodDescriptor yX10_passTitles.desc).map (fun d => d.parameters.length) = some 2 := ⟨rfl, cd_yX10_passTitles_2⟩
theorem cv_yX10_titleStands_1 : yX10_titleStands.cls = RX10 ∧ yX10_titleStands.cls ≠ "java/lang/invoke/MethodHandle" ∧ yX10_titleStands.cls ≠ "java/lang/invoke/VarHandle" ∧ (parseMethodDescriptor yX10_titleStands.desc).map (fun d => d.parameters.length) = some 1 := ⟨rfl, cd_yX10_titleStands_1⟩
theorem cv_yX10_decide_1 : yX10_decide.cls = RX10 ∧ yX10_decide.cls ≠ "java/lang/invoke/MethodHandle" ∧ yX10_decide.cls ≠ "java/lang/invoke/VarHandle" ∧ (parseMethodDescriptor yX10_decide.desc).map (fun d => d.parameters.length) = some 1 := ⟨rfl, cd_yX10_decide_1⟩
theorem cv_yX6_append_1 : yX6_append.cls = RX6 ∧ yX6_append.cls ≠ "java/lang/invoke/MethodHandle" ∧ yX6_append.cls ≠ "java/lang/invoke/VarHandle" ∧ (parseMethodDescriptor yX6_append.desc).map (fun d => d.parameters.length) = some 1 := ⟨rfl, cd_yX6_append_1⟩
theorem cv_yX3_addForce_3 : yX3_addForce.cls = RX3 ∧ yX3_addForce.cls ≠ "java/lang/invoke/MethodHandle" ∧ yX3_addForce.cls ≠ "java/lang/invoke/VarHandle" ∧ (parseMethodDescriptor yX3_addForce.desc).map (fun d => d.parameters.length) = some 3 := ⟨rfl, cd_yX3_addForce_3⟩
theorem cv_yX3_clauseBy_4 : yX3_clauseBy.cls = RX3 ∧ yX3_clauseBy.cls ≠ "java/lang/invoke/MethodHandle" ∧ yX3_clauseBy.cls ≠ "java/lang/invoke/VarHandle" ∧ (parseMethodDescriptor yX3_clauseBy.desc).map (fun d => d.parameters.length) = some 4 := ⟨rfl, cd_yX3_clauseBy_4⟩
theorem cv_yX11_canGoBy_3 : yX11_canGoBy.cls = RX11 ∧ yX11_canGoBy.cls ≠ "java/lang/invoke/MethodHandle" ∧ yX11_canGoBy.cls ≠ "java/lang/invoke/VarHandle" ∧ (parseMethodDescriptor yX11_canGoBy.desc).map (fun d => d.parameters.length) = some 3 := ⟨rfl, cd_yX11_canGoBy_3⟩
theorem cv_yX10_goBy_1 : yX10_goBy.cls = RX10 ∧ yX10_goBy.cls ≠ "java/lang/invoke/MethodHandle" ∧ yX10_goBy.cls ≠ "java/lang/invoke/VarHandle" ∧ (parseMethodDescriptor yX10_goBy.desc).map (fun d => d.parameters.length) = some 1 := ⟨rfl, cd_yX10_goBy_1⟩
theorem cv_yX10_copyFrom_1 : yX10_copyFrom.cls = RX10 ∧ yX10_copyFrom.cls ≠ "java/lang/invoke/MethodHandle" ∧ yX10_copyFrom.cls ≠ "java/lang/invoke/VarHandle" ∧ (parseMethodDescriptor yX10_copyFrom.desc).map (fun d => d.parameters.length) = some 1 := ⟨rfl, cd_yX10_copyFrom_1⟩
theorem cv_yX10_sandBehind_2 : yX10_sandBehind.cls = RX10 ∧ yX10_sandBehind.cls ≠ "java/lang/invoke/MethodHandle" ∧ yX10_sandBehind.cls ≠ "java/lang/invoke/VarHandle" ∧ (parseMethodDescriptor yX10_sandBehind.desc).map (fun d => d.parameters.length) = some 2 := ⟨rfl, cd_yX10_sandBehind_2⟩
theorem cv_yX5_seek_4 : yX5_seek.cls = RX5 ∧ yX5_seek.cls ≠ "java/lang/invoke/MethodHandle" ∧ yX5_seek.cls ≠ "java/lang/invoke/VarHandle" ∧ (parseMethodDescriptor yX5_seek.desc).map (fun d => d.parameters.length) = some 4 := ⟨rfl, cd_yX5_seek_4⟩
theorem cv_yX10_wasRock_1 : yX10_wasRock.cls = RX10 ∧ yX10_wasRock.cls ≠ "java/lang/invoke/MethodHandle" ∧ yX10_wasRock.cls ≠ "java/lang/invoke/VarHandle" ∧ (parseMethodDescriptor yX10_wasRock.desc).map (fun d => d.parameters.length) = some 1 := ⟨rfl, cd_yX10_wasRock_1⟩
theorem cv_yX1_dig_1 : yX1_dig.cls = RX1 ∧ yX1_dig.cls ≠ "java/lang/invoke/MethodHandle" ∧ yX1_dig.cls ≠ "java/lang/invoke/VarHandle" ∧ (parseMethodDescriptor yX1_dig.desc).map (fun d => d.parameters.length) = some 1 := ⟨rfl, cd_yX1_dig_1⟩
theorem cv_yX1_carry_2 : yX1_carry.cls = RX1 ∧ yX1_carry.cls ≠ "java/lang/invoke/MethodHandle" ∧ yX1_carry.cls ≠ "java/lang/invoke/VarHandle" ∧ (parseMethodDescriptor yX1_carry.desc).map (fun d => d.parameters.length) = some 2 := ⟨rfl, cd_yX1_carry_2⟩
theorem cv_yX1_whereNow_2 : yX1_whereNow.cls = RX1 ∧ yX1_whereNow.cls ≠ "java/lang/invoke/MethodHandle" ∧ yX1_whereNow.cls ≠ "java/lang/invoke/VarHandle" ∧ (parseMethodDescriptor yX1_whereNow.desc).map (fun d => d.parameters.length) = some 2 := ⟨rfl, cd_yX1_whereNow_2⟩
theorem cv_yJ0_coder_7d493_0 : yJ0_coder_7d493.cls = RJ0 ∧ yJ0_coder_7d493.cls ≠ "java/lang/invoke/MethodHandle" ∧ yJ0_coder_7d493.cls ≠ "java/lang/invoke/VarHandle" ∧ (parseMethodDescriptor yJ0_coder_7d493.desc).map (fun d => d.parameters.length) = some 0 := ⟨rfl, cd_yJ0_coder_7d493_0⟩
theorem cv_yJ0_isLatin1_aae02_0 : yJ0_isLatin1_aae02.cls = RJ0 ∧ yJ0_isLatin1_aae02.cls ≠ "java/lang/invoke/MethodHandle" ∧ yJ0_isLatin1_aae02.cls ≠ "java/lang/invoke/VarHandle" ∧ (parseMethodDescriptor yJ0_isLatin1_aae02.desc).map (fun d => d.parameters.length) = some 0 := ⟨rfl, cd_yJ0_isLatin1_aae02_0⟩
theorem cv_yJ0_length_8abf5_0 : yJ0_length_8abf5.cls = RJ0 ∧ yJ0_length_8abf5.cls ≠ "java/lang/invoke/MethodHandle" ∧ yJ0_length_8abf5.cls ≠ "java/lang/invoke/VarHandle" ∧ (parseMethodDescriptor yJ0_length_8abf5.desc).map (fun d => d.parameters.length) = some 0 := ⟨rfl, cd_yJ0_length_8abf5_0⟩
theorem cv_yJ0_charAt_5068e_1 : yJ0_charAt_5068e.cls = RJ0 ∧ yJ0_charAt_5068e.cls ≠ "java/lang/invoke/MethodHandle" ∧ yJ0_charAt_5068e.cls ≠ "java/lang/invoke/VarHandle" ∧ (parseMethodDescriptor yJ0_charAt_5068e.desc).map (fun d => d.parameters.length) = some 1 := ⟨rfl, cd_yJ0_charAt_5068e_1⟩
theorem cv_yX6_takeLonger_0 : yX6_takeLonger.cls = RX6 ∧ yX6_takeLonger.cls ≠ "java/lang/invoke/MethodHandle" ∧ yX6_takeLonger.cls ≠ "java/lang/invoke/VarHandle" ∧ (parseMethodDescriptor yX6_takeLonger.desc).map (fun d => d.parameters.length) = some 0 := ⟨rfl, cd_yX6_takeLonger_0⟩
theorem cv_yX6_takeWord_0 : yX6_takeWord.cls = RX6 ∧ yX6_takeWord.cls ≠ "java/lang/invoke/MethodHandle" ∧ yX6_takeWord.cls ≠ "java/lang/invoke/VarHandle" ∧ (parseMethodDescriptor yX6_takeWord.desc).map (fun d => d.parameters.length) = some 0 := ⟨rfl, cd_yX6_takeWord_0⟩
theorem cv_yX6_takeNumber_0 : yX6_takeNumber.cls = RX6 ∧ yX6_takeNumber.cls ≠ "java/lang/invoke/MethodHandle" ∧ yX6_takeNumber.cls ≠ "java/lang/invoke/VarHandle" ∧ (parseMethodDescriptor yX6_takeNumber.desc).map (fun d => d.parameters.length) = some 0 := ⟨rfl, cd_yX6_takeNumber_0⟩
theorem cv_yX4_await_1 : yX4_await.cls = RX4 ∧ yX4_await.cls ≠ "java/lang/invoke/MethodHandle" ∧ yX4_await.cls ≠ "java/lang/invoke/VarHandle" ∧ (parseMethodDescriptor yX4_await.desc).map (fun d => d.parameters.length) = some 1 := ⟨rfl, cd_yX4_await_1⟩
theorem cv_yX4_refuse_1 : yX4_refuse.cls = RX4 ∧ yX4_refuse.cls ≠ "java/lang/invoke/MethodHandle" ∧ yX4_refuse.cls ≠ "java/lang/invoke/VarHandle" ∧ (parseMethodDescriptor yX4_refuse.desc).map (fun d => d.parameters.length) = some 1 := ⟨rfl, cd_yX4_refuse_1⟩
theorem cv_yX4_openUp_1 : yX4_openUp.cls = RX4 ∧ yX4_openUp.cls ≠ "java/lang/invoke/MethodHandle" ∧ yX4_openUp.cls ≠ "java/lang/invoke/VarHandle" ∧ (parseMethodDescriptor yX4_openUp.desc).map (fun d => d.parameters.length) = some 1 := ⟨rfl, cd_yX4_openUp_1⟩
theorem cv_yX4_emit_1 : yX4_emit.cls = RX4 ∧ yX4_emit.cls ≠ "java/lang/invoke/MethodHandle" ∧ yX4_emit.cls ≠ "java/lang/invoke/VarHandle" ∧ (parseMethodDescriptor yX4_emit.desc).map (fun d => d.parameters.length) = some 1 := ⟨rfl, cd_yX4_emit_1⟩
theorem cv_yX4_settle_1 : yX4_settle.cls = RX4 ∧ yX4_settle.cls ≠ "java/lang/invoke/MethodHandle" ∧ yX4_settle.cls ≠ "java/lang/invoke/VarHandle" ∧ (parseMethodDescriptor yX4_settle.desc).map (fun d => d.parameters.length) = some 1 := ⟨rfl, cd_yX4_settle_1⟩
theorem cv_yX6_advance_0 : yX6_advance.cls = RX6 ∧ yX6_advance.cls ≠ "java/lang/invoke/MethodHandle" ∧ yX6_advance.cls ≠ "java/lang/invoke/VarHandle" ∧ (parseMethodDescriptor yX6_advance.desc).map (fun d => d.parameters.length) = some 0 := ⟨rfl, cd_yX6_advance_0⟩
theorem cv_yX4_readBehindOne_0 : yX4_readBehindOne.cls = RX4 ∧ yX4_readBehindOne.cls ≠ "java/lang/invoke/MethodHandle" ∧ yX4_readBehindOne.cls ≠ "java/lang/invoke/VarHandle" ∧ (parseMethodDescriptor yX4_readBehindOne.desc).map (fun d => d.parameters.length) = some 0 := ⟨rfl, cd_yX4_readBehindOne_0⟩
theorem cv_yX4_readOne_0 : yX4_readOne.cls = RX4 ∧ yX4_readOne.cls ≠ "java/lang/invoke/MethodHandle" ∧ yX4_readOne.cls ≠ "java/lang/invoke/VarHandle" ∧ (parseMethodDescriptor yX4_readOne.desc).map (fun d => d.parameters.length) = some 0 := ⟨rfl, cd_yX4_readOne_0⟩
theorem cv_yX4_expectSemicolon_0 : yX4_expectSemicolon.cls = RX4 ∧ yX4_expectSemicolon.cls ≠ "java/lang/invoke/MethodHandle" ∧ yX4_expectSemicolon.cls ≠ "java/lang/invoke/VarHandle" ∧ (parseMethodDescriptor yX4_expectSemicolon.desc).map (fun d => d.parameters.length) = some 0 := ⟨rfl, cd_yX4_expectSemicolon_0⟩
theorem cv_yX4_readKey_1 : yX4_readKey.cls = RX4 ∧ yX4_readKey.cls ≠ "java/lang/invoke/MethodHandle" ∧ yX4_readKey.cls ≠ "java/lang/invoke/VarHandle" ∧ (parseMethodDescriptor yX4_readKey.desc).map (fun d => d.parameters.length) = some 1 := ⟨rfl, cd_yX4_readKey_1⟩
theorem cv_yX4_readEither_0 : yX4_readEither.cls = RX4 ∧ yX4_readEither.cls ≠ "java/lang/invoke/MethodHandle" ∧ yX4_readEither.cls ≠ "java/lang/invoke/VarHandle" ∧ (parseMethodDescriptor yX4_readEither.desc).map (fun d => d.parameters.length) = some 0 := ⟨rfl, cd_yX4_readEither_0⟩
theorem cv_yX4_readNumber_1 : yX4_readNumber.cls = RX4 ∧ yX4_readNumber.cls ≠ "java/lang/invoke/MethodHandle" ∧ yX4_readNumber.cls ≠ "java/lang/invoke/VarHandle" ∧ (parseMethodDescriptor yX4_readNumber.desc).map (fun d => d.parameters.length) = some 1 := ⟨rfl, cd_yX4_readNumber_1⟩
theorem cv_yX4_readKeys_0 : yX4_readKeys.cls = RX4 ∧ yX4_readKeys.cls ≠ "java/lang/invoke/MethodHandle" ∧ yX4_readKeys.cls ≠ "java/lang/invoke/VarHandle" ∧ (parseMethodDescriptor yX4_readKeys.desc).map (fun d => d.parameters.length) = some 0 := ⟨rfl, cd_yX4_readKeys_0⟩
theorem cv_yX6_rewind_0 : yX6_rewind.cls = RX6 ∧ yX6_rewind.cls ≠ "java/lang/invoke/MethodHandle" ∧ yX6_rewind.cls ≠ "java/lang/invoke/VarHandle" ∧ (parseMethodDescriptor yX6_rewind.desc).map (fun d => d.parameters.length) = some 0 := ⟨rfl, cd_yX6_rewind_0⟩
theorem cv_yX4_readClause_0 : yX4_readClause.cls = RX4 ∧ yX4_readClause.cls ≠ "java/lang/invoke/MethodHandle" ∧ yX4_readClause.cls ≠ "java/lang/invoke/VarHandle" ∧ (parseMethodDescriptor yX4_readClause.desc).map (fun d => d.parameters.length) = some 0 := ⟨rfl, cd_yX4_readClause_0⟩
theorem cv_yX4_read_0 : yX4_read.cls = RX4 ∧ yX4_read.cls ≠ "java/lang/invoke/MethodHandle" ∧ yX4_read.cls ≠ "java/lang/invoke/VarHandle" ∧ (parseMethodDescriptor yX4_read.desc).map (fun d => d.parameters.length) = some 0 := ⟨rfl, cd_yX4_read_0⟩
theorem cv_yX12_see_1 : yX12_see.cls = RX12 ∧ yX12_see.cls ≠ "java/lang/invoke/MethodHandle" ∧ yX12_see.cls ≠ "java/lang/invoke/VarHandle" ∧ (parseMethodDescriptor yX12_see.desc).map (fun d => d.parameters.length) = some 1 := ⟨rfl, cd_yX12_see_1⟩
theorem cv_yX12_emit_2 : yX12_emit.cls = RX12 ∧ yX12_emit.cls ≠ "java/lang/invoke/MethodHandle" ∧ yX12_emit.cls ≠ "java/lang/invoke/VarHandle" ∧ (parseMethodDescriptor yX12_emit.desc).map (fun d => d.parameters.length) = some 2 := ⟨rfl, cd_yX12_emit_2⟩
theorem cv_yX12_hasParen_0 : yX12_hasParen.cls = RX12 ∧ yX12_hasParen.cls ≠ "java/lang/invoke/MethodHandle" ∧ yX12_hasParen.cls ≠ "java/lang/invoke/VarHandle" ∧ (parseMethodDescriptor yX12_hasParen.desc).map (fun d => d.parameters.length) = some 0 := ⟨rfl, cd_yX12_hasParen_0⟩
theorem cv_yX12_nextToken_0 : yX12_nextToken.cls = RX12 ∧ yX12_nextToken.cls ≠ "java/lang/invoke/MethodHandle" ∧ yX12_nextToken.cls ≠ "java/lang/invoke/VarHandle" ∧ (parseMethodDescriptor yX12_nextToken.desc).map (fun d => d.parameters.length) = some 0 := ⟨rfl, cd_yX12_nextToken_0⟩
theorem cv_yX12_whole_0 : yX12_whole.cls = RX12 ∧ yX12_whole.cls ≠ "java/lang/invoke/MethodHandle" ∧ yX12_whole.cls ≠ "java/lang/invoke/VarHandle" ∧ (parseMethodDescriptor yX12_whole.desc).map (fun d => d.parameters.length) = some 0 := ⟨rfl, cd_yX12_whole_0⟩
theorem cv_yX12_nameOf_0 : yX12_nameOf.cls = RX12 ∧ yX12_nameOf.cls ≠ "java/lang/invoke/MethodHandle" ∧ yX12_nameOf.cls ≠ "java/lang/invoke/VarHandle" ∧ (parseMethodDescriptor yX12_nameOf.desc).map (fun d => d.parameters.length) = some 0 := ⟨rfl, cd_yX12_nameOf_0⟩
theorem cv_yX12_push_1 : yX12_push.cls = RX12 ∧ yX12_push.cls ≠ "java/lang/invoke/MethodHandle" ∧ yX12_push.cls ≠ "java/lang/invoke/VarHandle" ∧ (parseMethodDescriptor yX12_push.desc).map (fun d => d.parameters.length) = some 1 := ⟨rfl, cd_yX12_push_1⟩
theorem cv_yX12_settle_1 : yX12_settle.cls = RX12 ∧ yX12_settle.cls ≠ "java/lang/invoke/MethodHandle" ∧ yX12_settle.cls ≠ "java/lang/invoke/VarHandle" ∧ (parseMethodDescriptor yX12_settle.desc).map (fun d => d.parameters.length) = some 1 := ⟨rfl, cd_yX12_settle_1⟩
theorem cv_yX12_beginOne_0 : yX12_beginOne.cls = RX12 ∧ yX12_beginOne.cls ≠ "java/lang/invoke/MethodHandle" ∧ yX12_beginOne.cls ≠ "java/lang/invoke/VarHandle" ∧ (parseMethodDescriptor yX12_beginOne.desc).map (fun d => d.parameters.length) = some 0 := ⟨rfl, cd_yX12_beginOne_0⟩
theorem cv_yX12_goesOn_0 : yX12_goesOn.cls = RX12 ∧ yX12_goesOn.cls ≠ "java/lang/invoke/MethodHandle" ∧ yX12_goesOn.cls ≠ "java/lang/invoke/VarHandle" ∧ (parseMethodDescriptor yX12_goesOn.desc).map (fun d => d.parameters.length) = some 0 := ⟨rfl, cd_yX12_goesOn_0⟩
theorem cv_yX12_behindOne_0 : yX12_behindOne.cls = RX12 ∧ yX12_behindOne.cls ≠ "java/lang/invoke/MethodHandle" ∧ yX12_behindOne.cls ≠ "java/lang/invoke/VarHandle" ∧ (parseMethodDescriptor yX12_behindOne.desc).map (fun d => d.parameters.length) = some 0 := ⟨rfl, cd_yX12_behindOne_0⟩
theorem cv_yX12_isWord_1 : yX12_isWord.cls = RX12 ∧ yX12_isWord.cls ≠ "java/lang/invoke/MethodHandle" ∧ yX12_isWord.cls ≠ "java/lang/invoke/VarHandle" ∧ (parseMethodDescriptor yX12_isWord.desc).map (fun d => d.parameters.length) = some 1 := ⟨rfl, cd_yX12_isWord_1⟩
theorem cv_yX12_sum_0 : yX12_sum.cls = RX12 ∧ yX12_sum.cls ≠ "java/lang/invoke/MethodHandle" ∧ yX12_sum.cls ≠ "java/lang/invoke/VarHandle" ∧ (parseMethodDescriptor yX12_sum.desc).map (fun d => d.parameters.length) = some 0 := ⟨rfl, cd_yX12_sum_0⟩
theorem cv_yX12_compareOf_0 : yX12_compareOf.cls = RX12 ∧ yX12_compareOf.cls ≠ "java/lang/invoke/MethodHandle" ∧ yX12_compareOf.cls ≠ "java/lang/invoke/VarHandle" ∧ (parseMethodDescriptor yX12_compareOf.desc).map (fun d => d.parameters.length) = some 0 := ⟨rfl, cd_yX12_compareOf_0⟩
theorem cv_yX12_ask_0 : yX12_ask.cls = RX12 ∧ yX12_ask.cls ≠ "java/lang/invoke/MethodHandle" ∧ yX12_ask.cls ≠ "java/lang/invoke/VarHandle" ∧ (parseMethodDescriptor yX12_ask.desc).map (fun d => d.parameters.length) = some 0 := ⟨rfl, cd_yX12_ask_0⟩
theorem cv_yX12_sortOf_0 : yX12_sortOf.cls = RX12 ∧ yX12_sortOf.cls ≠ "java/lang/invoke/MethodHandle" ∧ yX12_sortOf.cls ≠ "java/lang/invoke/VarHandle" ∧ (parseMethodDescriptor yX12_sortOf.desc).map (fun d => d.parameters.length) = some 0 := ⟨rfl, cd_yX12_sortOf_0⟩
theorem cv_yX12_either_0 : yX12_either.cls = RX12 ∧ yX12_either.cls ≠ "java/lang/invoke/MethodHandle" ∧ yX12_either.cls ≠ "java/lang/invoke/VarHandle" ∧ (parseMethodDescriptor yX12_either.desc).map (fun d => d.parameters.length) = some 0 := ⟨rfl, cd_yX12_either_0⟩
theorem cv_yX12_take_2 : yX12_take.cls = RX12 ∧ yX12_take.cls ≠ "java/lang/invoke/MethodHandle" ∧ yX12_take.cls ≠ "java/lang/invoke/VarHandle" ∧ (parseMethodDescriptor yX12_take.desc).map (fun d => d.parameters.length) = some 2 := ⟨rfl, cd_yX12_take_2⟩
theorem cv_yX12_keys_1 : yX12_keys.cls = RX12 ∧ yX12_keys.cls ≠ "java/lang/invoke/MethodHandle" ∧ yX12_keys.cls ≠ "java/lang/invoke/VarHandle" ∧ (parseMethodDescriptor yX12_keys.desc).map (fun d => d.parameters.length) = some 1 := ⟨rfl, cd_yX12_keys_1⟩
theorem cv_yX12_clause_0 : yX12_clause.cls = RX12 ∧ yX12_clause.cls ≠ "java/lang/invoke/MethodHandle" ∧ yX12_clause.cls ≠ "java/lang/invoke/VarHandle" ∧ (parseMethodDescriptor yX12_clause.desc).map (fun d => d.parameters.length) = some 0 := ⟨rfl, cd_yX12_clause_0⟩
theorem cv_yX12_readText_0 : yX12_readText.cls = RX12 ∧ yX12_readText.cls ≠ "java/lang/invoke/MethodHandle" ∧ yX12_readText.cls ≠ "java/lang/invoke/VarHandle" ∧ (parseMethodDescriptor yX12_readText.desc).map (fun d => d.parameters.length) = some 0 := ⟨rfl, cd_yX12_readText_0⟩
theorem cv_yX12_isRing_1 : yX12_isRing.cls = RX12 ∧ yX12_isRing.cls ≠ "java/lang/invoke/MethodHandle" ∧ yX12_isRing.cls ≠ "java/lang/invoke/VarHandle" ∧ (parseMethodDescriptor yX12_isRing.desc).map (fun d => d.parameters.length) = some 1 := ⟨rfl, cd_yX12_isRing_1⟩
theorem cv_yX12_latest_3 : yX12_latest.cls = RX12 ∧ yX12_latest.cls ≠ "java/lang/invoke/MethodHandle" ∧ yX12_latest.cls ≠ "java/lang/invoke/VarHandle" ∧ (parseMethodDescriptor yX12_latest.desc).map (fun d => d.parameters.length) = some 3 := ⟨rfl, cd_yX12_latest_3⟩
theorem cv_yX12_worst_2 : yX12_worst.cls = RX12 ∧ yX12_worst.cls ≠ "java/lang/invoke/MethodHandle" ∧ yX12_worst.cls ≠ "java/lang/invoke/VarHandle" ∧ (parseMethodDescriptor yX12_worst.desc).map (fun d => d.parameters.length) = some 2 := ⟨rfl, cd_yX12_worst_2⟩
theorem cv_yX12_levelAt_3 : yX12_levelAt.cls = RX12 ∧ yX12_levelAt.cls ≠ "java/lang/invoke/MethodHandle" ∧ yX12_levelAt.cls ≠ "java/lang/invoke/VarHandle" ∧ (parseMethodDescriptor yX12_levelAt.desc).map (fun d => d.parameters.length) = some 3 := ⟨rfl, cd_yX12_levelAt_3⟩
theorem cv_yX12_isCell_1 : yX12_isCell.cls = RX12 ∧ yX12_isCell.cls ≠ "java/lang/invoke/MethodHandle" ∧ yX12_isCell.cls ≠ "java/lang/invoke/VarHandle" ∧ (parseMethodDescriptor yX12_isCell.desc).map (fun d => d.parameters.length) = some 1 := ⟨rfl, cd_yX12_isCell_1⟩
theorem cv_yX12_cellAt_2 : yX12_cellAt.cls = RX12 ∧ yX12_cellAt.cls ≠ "java/lang/invoke/MethodHandle" ∧ yX12_cellAt.cls ≠ "java/lang/invoke/VarHandle" ∧ (parseMethodDescriptor yX12_cellAt.desc).map (fun d => d.parameters.length) = some 2 := ⟨rfl, cd_yX12_cellAt_2⟩
theorem cv_yX12_personAt_2 : yX12_personAt.cls = RX12 ∧ yX12_personAt.cls ≠ "java/lang/invoke/MethodHandle" ∧ yX12_personAt.cls ≠ "java/lang/invoke/VarHandle" ∧ (parseMethodDescriptor yX12_personAt.desc).map (fun d => d.parameters.length) = some 2 := ⟨rfl, cd_yX12_personAt_2⟩
theorem cv_yX12_manyAt_1 : yX12_manyAt.cls = RX12 ∧ yX12_manyAt.cls ≠ "java/lang/invoke/MethodHandle" ∧ yX12_manyAt.cls ≠ "java/lang/invoke/VarHandle" ∧ (parseMethodDescriptor yX12_manyAt.desc).map (fun d => d.parameters.length) = some 1 := ⟨rfl, cd_yX12_manyAt_1⟩
theorem cv_yX12_isLot_1 : yX12_isLot.cls = RX12 ∧ yX12_isLot.cls ≠ "java/lang/invoke/MethodHandle" ∧ yX12_isLot.cls ≠ "java/lang/invoke/VarHandle" ∧ (parseMethodDescriptor yX12_isLot.desc).map (fun d => d.parameters.length) = some 1 := ⟨rfl, cd_yX12_isLot_1⟩
theorem cv_yX12_isPerson_1 : yX12_isPerson.cls = RX12 ∧ yX12_isPerson.cls ≠ "java/lang/invoke/MethodHandle" ∧ yX12_isPerson.cls ≠ "java/lang/invoke/VarHandle" ∧ (parseMethodDescriptor yX12_isPerson.desc).map (fun d => d.parameters.length) = some 1 := ⟨rfl, cd_yX12_isPerson_1⟩
theorem cv_yX12_isPlace_1 : yX12_isPlace.cls = RX12 ∧ yX12_isPlace.cls ≠ "java/lang/invoke/MethodHandle" ∧ yX12_isPlace.cls ≠ "java/lang/invoke/VarHandle" ∧ (parseMethodDescriptor yX12_isPlace.desc).map (fun d => d.parameters.length) = some 1 := ⟨rfl, cd_yX12_isPlace_1⟩
theorem cv_yX12_freeIn_1 : yX12_freeIn.cls = RX12 ∧ yX12_freeIn.cls ≠ "java/lang/invoke/MethodHandle" ∧ yX12_freeIn.cls ≠ "java/lang/invoke/VarHandle" ∧ (parseMethodDescriptor yX12_freeIn.desc).map (fun d => d.parameters.length) = some 1 := ⟨rfl, cd_yX12_freeIn_1⟩
theorem cv_yX12_clausesOf_1 : yX12_clausesOf.cls = RX12 ∧ yX12_clausesOf.cls ≠ "java/lang/invoke/MethodHandle" ∧ yX12_clausesOf.cls ≠ "java/lang/invoke/VarHandle" ∧ (parseMethodDescriptor yX12_clausesOf.desc).map (fun d => d.parameters.length) = some 1 := ⟨rfl, cd_yX12_clausesOf_1⟩
theorem cv_yX12_clauseAt_2 : yX12_clauseAt.cls = RX12 ∧ yX12_clauseAt.cls ≠ "java/lang/invoke/MethodHandle" ∧ yX12_clauseAt.cls ≠ "java/lang/invoke/VarHandle" ∧ (parseMethodDescriptor yX12_clauseAt.desc).map (fun d => d.parameters.length) = some 2 := ⟨rfl, cd_yX12_clauseAt_2⟩
theorem cv_yX12_firstOf_2 : yX12_firstOf.cls = RX12 ∧ yX12_firstOf.cls ≠ "java/lang/invoke/MethodHandle" ∧ yX12_firstOf.cls ≠ "java/lang/invoke/VarHandle" ∧ (parseMethodDescriptor yX12_firstOf.desc).map (fun d => d.parameters.length) = some 2 := ⟨rfl, cd_yX12_firstOf_2⟩
theorem cv_yX12_textFor_2 : yX12_textFor.cls = RX12 ∧ yX12_textFor.cls ≠ "java/lang/invoke/MethodHandle" ∧ yX12_textFor.cls ≠ "java/lang/invoke/VarHandle" ∧ (parseMethodDescriptor yX12_textFor.desc).map (fun d => d.parameters.length) = some 2 := ⟨rfl, cd_yX12_textFor_2⟩
theorem cv_yX12_named_4 : yX12_named.cls = RX12 ∧ yX12_named.cls ≠ "java/lang/invoke/MethodHandle" ∧ yX12_named.cls ≠ "java/lang/invoke/VarHandle" ∧ (parseMethodDescriptor yX12_named.desc).map (fun d => d.parameters.length) = some 4 := ⟨rfl, cd_yX12_named_4⟩
theorem cv_yX12_keysFor_2 : yX12_keysFor.cls = RX12 ∧ yX12_keysFor.cls ≠ "java/lang/invoke/MethodHandle" ∧ yX12_keysFor.cls ≠ "java/lang/invoke/VarHandle" ∧ (parseMethodDescriptor yX12_keysFor.desc).map (fun d => d.parameters.length) = some 2 := ⟨rfl, cd_yX12_keysFor_2⟩
theorem cv_yX12_isAhead_3 : yX12_isAhead.cls = RX12 ∧ yX12_isAhead.cls ≠ "java/lang/invoke/MethodHandle" ∧ yX12_isAhead.cls ≠ "java/lang/invoke/VarHandle" ∧ (parseMethodDescriptor yX12_isAhead.desc).map (fun d => d.parameters.length) = some 3 := ⟨rfl, cd_yX12_isAhead_3⟩
theorem cv_yX12_isSo_5 : yX12_isSo.cls = RX12 ∧ yX12_isSo.cls ≠ "java/lang/invoke/MethodHandle" ∧ yX12_isSo.cls ≠ "java/lang/invoke/VarHandle" ∧ (parseMethodDescriptor yX12_isSo.desc).map (fun d => d.parameters.length) = some 5 := ⟨rfl, cd_yX12_isSo_5⟩
theorem cv_yX12_firstSo_4 : yX12_firstSo.cls = RX12 ∧ yX12_firstSo.cls ≠ "java/lang/invoke/MethodHandle" ∧ yX12_firstSo.cls ≠ "java/lang/invoke/VarHandle" ∧ (parseMethodDescriptor yX12_firstSo.desc).map (fun d => d.parameters.length) = some 4 := ⟨rfl, cd_yX12_firstSo_4⟩
theorem cv_yX12_stands_1 : yX12_stands.cls = RX12 ∧ yX12_stands.cls ≠ "java/lang/invoke/MethodHandle" ∧ yX12_stands.cls ≠ "java/lang/invoke/VarHandle" ∧ (parseMethodDescriptor yX12_stands.desc).map (fun d => d.parameters.length) = some 1 := ⟨rfl, cd_yX12_stands_1⟩
theorem cv_yX12_four_1 : yX12_four.cls = RX12 ∧ yX12_four.cls ≠ "java/lang/invoke/MethodHandle" ∧ yX12_four.cls ≠ "java/lang/invoke/VarHandle" ∧ (parseMethodDescriptor yX12_four.desc).map (fun d => d.parameters.length) = some 1 := ⟨rfl, cd_yX12_four_1⟩
theorem cv_yX12_isFor_3 : yX12_isFor.cls = RX12 ∧ yX12_isFor.cls ≠ "java/lang/invoke/MethodHandle" ∧ yX12_isFor.cls ≠ "java/lang/invoke/VarHandle" ∧ (parseMethodDescriptor yX12_isFor.desc).map (fun d => d.parameters.length) = some 3 := ⟨rfl, cd_yX12_isFor_3⟩
theorem cv_yX12_numberOf_3 : yX12_numberOf.cls = RX12 ∧ yX12_numberOf.cls ≠ "java/lang/invoke/MethodHandle" ∧ yX12_numberOf.cls ≠ "java/lang/invoke/VarHandle" ∧ (parseMethodDescriptor yX12_numberOf.desc).map (fun d => d.parameters.length) = some 3 := ⟨rfl, cd_yX12_numberOf_3⟩
theorem cv_yX12_tableAt_2 : yX12_tableAt.cls = RX12 ∧ yX12_tableAt.cls ≠ "java/lang/invoke/MethodHandle" ∧ yX12_tableAt.cls ≠ "java/lang/invoke/VarHandle" ∧ (parseMethodDescriptor yX12_tableAt.desc).map (fun d => d.parameters.length) = some 2 := ⟨rfl, cd_yX12_tableAt_2⟩
theorem cv_yX12_topOf_1 : yX12_topOf.cls = RX12 ∧ yX12_topOf.cls ≠ "java/lang/invoke/MethodHandle" ∧ yX12_topOf.cls ≠ "java/lang/invoke/VarHandle" ∧ (parseMethodDescriptor yX12_topOf.desc).map (fun d => d.parameters.length) = some 1 := ⟨rfl, cd_yX12_topOf_1⟩
theorem cv_yX12_isOnRing_1 : yX12_isOnRing.cls = RX12 ∧ yX12_isOnRing.cls ≠ "java/lang/invoke/MethodHandle" ∧ yX12_isOnRing.cls ≠ "java/lang/invoke/VarHandle" ∧ (parseMethodDescriptor yX12_isOnRing.desc).map (fun d => d.parameters.length) = some 1 := ⟨rfl, cd_yX12_isOnRing_1⟩
theorem cv_yX12_isSweet_2 : yX12_isSweet.cls = RX12 ∧ yX12_isSweet.cls ≠ "java/lang/invoke/MethodHandle" ∧ yX12_isSweet.cls ≠ "java/lang/invoke/VarHandle" ∧ (parseMethodDescriptor yX12_isSweet.desc).map (fun d => d.parameters.length) = some 2 := ⟨rfl, cd_yX12_isSweet_2⟩
theorem cv_yX12_wasRock_2 : yX12_wasRock.cls = RX12 ∧ yX12_wasRock.cls ≠ "java/lang/invoke/MethodHandle" ∧ yX12_wasRock.cls ≠ "java/lang/invoke/VarHandle" ∧ (parseMethodDescriptor yX12_wasRock.desc).map (fun d => d.parameters.length) = some 2 := ⟨rfl, cd_yX12_wasRock_2⟩
theorem cv_yX12_areaOf_1 : yX12_areaOf.cls = RX12 ∧ yX12_areaOf.cls ≠ "java/lang/invoke/MethodHandle" ∧ yX12_areaOf.cls ≠ "java/lang/invoke/VarHandle" ∧ (parseMethodDescriptor yX12_areaOf.desc).map (fun d => d.parameters.length) = some 1 := ⟨rfl, cd_yX12_areaOf_1⟩
theorem cv_yX12_sails_3 : yX12_sails.cls = RX12 ∧ yX12_sails.cls ≠ "java/lang/invoke/MethodHandle" ∧ yX12_sails.cls ≠ "java/lang/invoke/VarHandle" ∧ (parseMethodDescriptor yX12_sails.desc).map (fun d => d.parameters.length) = some 3 := ⟨rfl, cd_yX12_sails_3⟩
theorem cv_yX12_isOfKin_3 : yX12_isOfKin.cls = RX12 ∧ yX12_isOfKin.cls ≠ "java/lang/invoke/MethodHandle" ∧ yX12_isOfKin.cls ≠ "java/lang/invoke/VarHandle" ∧ (parseMethodDescriptor yX12_isOfKin.desc).map (fun d => d.parameters.length) = some 3 := ⟨rfl, cd_yX12_isOfKin_3⟩
theorem cv_yX12_family_3 : yX12_family.cls = RX12 ∧ yX12_family.cls ≠ "java/lang/invoke/MethodHandle" ∧ yX12_family.cls ≠ "java/lang/invoke/VarHandle" ∧ (parseMethodDescriptor yX12_family.desc).map (fun d => d.parameters.length) = some 3 := ⟨rfl, cd_yX12_family_3⟩
theorem cv_yX12_goesAhead_4 : yX12_goesAhead.cls = RX12 ∧ yX12_goesAhead.cls ≠ "java/lang/invoke/MethodHandle" ∧ yX12_goesAhead.cls ≠ "java/lang/invoke/VarHandle" ∧ (parseMethodDescriptor yX12_goesAhead.desc).map (fun d => d.parameters.length) = some 4 := ⟨rfl, cd_yX12_goesAhead_4⟩
theorem cv_yX12_reefGoes_1 : yX12_reefGoes.cls = RX12 ∧ yX12_reefGoes.cls ≠ "java/lang/invoke/MethodHandle" ∧ yX12_reefGoes.cls ≠ "java/lang/invoke/VarHandle" ∧ (parseMethodDescriptor yX12_reefGoes.desc).map (fun d => d.parameters.length) = some 1 := ⟨rfl, cd_yX12_reefGoes_1⟩
theorem cv_yX12_sandGoes_1 : yX12_sandGoes.cls = RX12 ∧ yX12_sandGoes.cls ≠ "java/lang/invoke/MethodHandle" ∧ yX12_sandGoes.cls ≠ "java/lang/invoke/VarHandle" ∧ (parseMethodDescriptor yX12_sandGoes.desc).map (fun d => d.parameters.length) = some 1 := ⟨rfl, cd_yX12_sandGoes_1⟩
theorem cv_yX12_seaStands_2 : yX12_seaStands.cls = RX12 ∧ yX12_seaStands.cls ≠ "java/lang/invoke/MethodHandle" ∧ yX12_seaStands.cls ≠ "java/lang/invoke/VarHandle" ∧ (parseMethodDescriptor yX12_seaStands.desc).map (fun d => d.parameters.length) = some 2 := ⟨rfl, cd_yX12_seaStands_2⟩
theorem cv_yX12_drink_0 : yX12_drink.cls = RX12 ∧ yX12_drink.cls ≠ "java/lang/invoke/MethodHandle" ∧ yX12_drink.cls ≠ "java/lang/invoke/VarHandle" ∧ (parseMethodDescriptor yX12_drink.desc).map (fun d => d.parameters.length) = some 0 := ⟨rfl, cd_yX12_drink_0⟩
theorem cv_yX12_sleep_0 : yX12_sleep.cls = RX12 ∧ yX12_sleep.cls ≠ "java/lang/invoke/MethodHandle" ∧ yX12_sleep.cls ≠ "java/lang/invoke/VarHandle" ∧ (parseMethodDescriptor yX12_sleep.desc).map (fun d => d.parameters.length) = some 0 := ⟨rfl, cd_yX12_sleep_0⟩
theorem cv_yX12_fundGoes_1 : yX12_fundGoes.cls = RX12 ∧ yX12_fundGoes.cls ≠ "java/lang/invoke/MethodHandle" ∧ yX12_fundGoes.cls ≠ "java/lang/invoke/VarHandle" ∧ (parseMethodDescriptor yX12_fundGoes.desc).map (fun d => d.parameters.length) = some 1 := ⟨rfl, cd_yX12_fundGoes_1⟩
theorem cv_yX12_boatsGo_1 : yX12_boatsGo.cls = RX12 ∧ yX12_boatsGo.cls ≠ "java/lang/invoke/MethodHandle" ∧ yX12_boatsGo.cls ≠ "java/lang/invoke/VarHandle" ∧ (parseMethodDescriptor yX12_boatsGo.desc).map (fun d => d.parameters.length) = some 1 := ⟨rfl, cd_yX12_boatsGo_1⟩
theorem cv_yX12_isTime_3 : yX12_isTime.cls = RX12 ∧ yX12_isTime.cls ≠ "java/lang/invoke/MethodHandle" ∧ yX12_isTime.cls ≠ "java/lang/invoke/VarHandle" ∧ (parseMethodDescriptor yX12_isTime.desc).map (fun d => d.parameters.length) = some 3 := ⟨rfl, cd_yX12_isTime_3⟩
theorem cv_yX12_month_1 : yX12_month.cls = RX12 ∧ yX12_month.cls ≠ "java/lang/invoke/MethodHandle" ∧ yX12_month.cls ≠ "java/lang/invoke/VarHandle" ∧ (parseMethodDescriptor yX12_month.desc).map (fun d => d.parameters.length) = some 1 := ⟨rfl, cd_yX12_month_1⟩
theorem cv_yX12_sandBehind_3 : yX12_sandBehind.cls = RX12 ∧ yX12_sandBehind.cls ≠ "java/lang/invoke/MethodHandle" ∧ yX12_sandBehind.cls ≠ "java/lang/invoke/VarHandle" ∧ (parseMethodDescriptor yX12_sandBehind.desc).map (fun d => d.parameters.length) = some 3 := ⟨rfl, cd_yX12_sandBehind_3⟩
theorem cv_yX12_wants_0 : yX12_wants.cls = RX12 ∧ yX12_wants.cls ≠ "java/lang/invoke/MethodHandle" ∧ yX12_wants.cls ≠ "java/lang/invoke/VarHandle" ∧ (parseMethodDescriptor yX12_wants.desc).map (fun d => d.parameters.length) = some 0 := ⟨rfl, cd_yX12_wants_0⟩
theorem cv_yX12_nextOrder_1 : yX12_nextOrder.cls = RX12 ∧ yX12_nextOrder.cls ≠ "java/lang/invoke/MethodHandle" ∧ yX12_nextOrder.cls ≠ "java/lang/invoke/VarHandle" ∧ (parseMethodDescriptor yX12_nextOrder.desc).map (fun d => d.parameters.length) = some 1 := ⟨rfl, cd_yX12_nextOrder_1⟩
theorem cv_yX12_lies_2 : yX12_lies.cls = RX12 ∧ yX12_lies.cls ≠ "java/lang/invoke/MethodHandle" ∧ yX12_lies.cls ≠ "java/lang/invoke/VarHandle" ∧ (parseMethodDescriptor yX12_lies.desc).map (fun d => d.parameters.length) = some 2 := ⟨rfl, cd_yX12_lies_2⟩
theorem cv_yX11_ring_0 : yX11_ring.cls = RX11 ∧ yX11_ring.cls ≠ "java/lang/invoke/MethodHandle" ∧ yX11_ring.cls ≠ "java/lang/invoke/VarHandle" ∧ (parseMethodDescriptor yX11_ring.desc).map (fun d => d.parameters.length) = some 0 := ⟨rfl, cd_yX11_ring_0⟩
theorem cv_yX12_ring_0 : yX12_ring.cls = RX12 ∧ yX12_ring.cls ≠ "java/lang/invoke/MethodHandle" ∧ yX12_ring.cls ≠ "java/lang/invoke/VarHandle" ∧ (parseMethodDescriptor yX12_ring.desc).map (fun d => d.parameters.length) = some 0 := ⟨rfl, cd_yX12_ring_0⟩
theorem cv_yX11_cell_6 : yX11_cell.cls = RX11 ∧ yX11_cell.cls ≠ "java/lang/invoke/MethodHandle" ∧ yX11_cell.cls ≠ "java/lang/invoke/VarHandle" ∧ (parseMethodDescriptor yX11_cell.desc).map (fun d => d.parameters.length) = some 6 := ⟨rfl, cd_yX11_cell_6⟩
theorem cv_yX12_cell_6 : yX12_cell.cls = RX12 ∧ yX12_cell.cls ≠ "java/lang/invoke/MethodHandle" ∧ yX12_cell.cls ≠ "java/lang/invoke/VarHandle" ∧ (parseMethodDescriptor yX12_cell.desc).map (fun d => d.parameters.length) = some 6 := ⟨rfl, cd_yX12_cell_6⟩
theorem cv_yX11_level_4 : yX11_level.cls = RX11 ∧ yX11_level.cls ≠ "java/lang/invoke/MethodHandle" ∧ yX11_level.cls ≠ "java/lang/invoke/VarHandle" ∧ (parseMethodDescriptor yX11_level.desc).map (fun d => d.parameters.length) = some 4 := ⟨rfl, cd_yX11_level_4⟩
theorem cv_yX12_level_4 : yX12_level.cls = RX12 ∧ yX12_level.cls ≠ "java/lang/invoke/MethodHandle" ∧ yX12_level.cls ≠ "java/lang/invoke/VarHandle" ∧ (parseMethodDescriptor yX12_level.desc).map (fun d => d.parameters.length) = some 4 := ⟨rfl, cd_yX12_level_4⟩
theorem cv_yX11_levelOf_3 : yX11_levelOf.cls = RX11 ∧ yX11_levelOf.cls ≠ "java/lang/invoke/MethodHandle" ∧ yX11_levelOf.cls ≠ "java/lang/invoke/VarHandle" ∧ (parseMethodDescriptor yX11_levelOf.desc).map (fun d => d.parameters.length) = some 3 := ⟨rfl, cd_yX11_levelOf_3⟩
theorem cv_yX12_levelOf_3 : yX12_levelOf.cls = RX12 ∧ yX12_levelOf.cls ≠ "java/lang/invoke/MethodHandle" ∧ yX12_levelOf.cls ≠ "java/lang/invoke/VarHandle" ∧ (parseMethodDescriptor yX12_levelOf.desc).map (fun d => d.parameters.length) = some 3 := ⟨rfl, cd_yX12_levelOf_3⟩
theorem cv_yX11_table_6 : yX11_table.cls = RX11 ∧ yX11_table.cls ≠ "java/lang/invoke/MethodHandle" ∧ yX11_table.cls ≠ "java/lang/invoke/VarHandle" ∧ (parseMethodDescriptor yX11_table.desc).map (fun d => d.parameters.length) = some 6 := ⟨rfl, cd_yX11_table_6⟩
theorem cv_yX12_table_6 : yX12_table.cls = RX12 ∧ yX12_table.cls ≠ "java/lang/invoke/MethodHandle" ∧ yX12_table.cls ≠ "java/lang/invoke/VarHandle" ∧ (parseMethodDescriptor yX12_table.desc).map (fun d => d.parameters.length) = some 6 := ⟨rfl, cd_yX12_table_6⟩
theorem cv_yX11_rules_5 : yX11_rules.cls = RX11 ∧ yX11_rules.cls ≠ "java/lang/invoke/MethodHandle" ∧ yX11_rules.cls ≠ "java/lang/invoke/VarHandle" ∧ (parseMethodDescriptor yX11_rules.desc).map (fun d => d.parameters.length) = some 5 := ⟨rfl, cd_yX11_rules_5⟩
theorem cv_yX12_rules_5 : yX12_rules.cls = RX12 ∧ yX12_rules.cls ≠ "java/lang/invoke/MethodHandle" ∧ yX12_rules.cls ≠ "java/lang/invoke/VarHandle" ∧ (parseMethodDescriptor yX12_rules.desc).map (fun d => d.parameters.length) = some 5 := ⟨rfl, cd_yX12_rules_5⟩
theorem cv_yX11_wall_2 : yX11_wall.cls = RX11 ∧ yX11_wall.cls ≠ "java/lang/invoke/MethodHandle" ∧ yX11_wall.cls ≠ "java/lang/invoke/VarHandle" ∧ (parseMethodDescriptor yX11_wall.desc).map (fun d => d.parameters.length) = some 2 := ⟨rfl, cd_yX11_wall_2⟩
theorem cv_yX12_wall_2 : yX12_wall.cls = RX12 ∧ yX12_wall.cls ≠ "java/lang/invoke/MethodHandle" ∧ yX12_wall.cls ≠ "java/lang/invoke/VarHandle" ∧ (parseMethodDescriptor yX12_wall.desc).map (fun d => d.parameters.length) = some 2 := ⟨rfl, cd_yX12_wall_2⟩
theorem cv_yX11_well_4 : yX11_well.cls = RX11 ∧ yX11_well.cls ≠ "java/lang/invoke/MethodHandle" ∧ yX11_well.cls ≠ "java/lang/invoke/VarHandle" ∧ (parseMethodDescriptor yX11_well.desc).map (fun d => d.parameters.length) = some 4 := ⟨rfl, cd_yX11_well_4⟩
theorem cv_yX12_well_4 : yX12_well.cls = RX12 ∧ yX12_well.cls ≠ "java/lang/invoke/MethodHandle" ∧ yX12_well.cls ≠ "java/lang/invoke/VarHandle" ∧ (parseMethodDescriptor yX12_well.desc).map (fun d => d.parameters.length) = some 4 := ⟨rfl, cd_yX12_well_4⟩
theorem cv_yX11_beds_2 : yX11_beds.cls = RX11 ∧ yX11_beds.cls ≠ "java/lang/invoke/MethodHandle" ∧ yX11_beds.cls ≠ "java/lang/invoke/VarHandle" ∧ (parseMethodDescriptor yX11_beds.desc).map (fun d => d.parameters.length) = some 2 := ⟨rfl, cd_yX11_beds_2⟩
theorem cv_yX12_beds_2 : yX12_beds.cls = RX12 ∧ yX12_beds.cls ≠ "java/lang/invoke/MethodHandle" ∧ yX12_beds.cls ≠ "java/lang/invoke/VarHandle" ∧ (parseMethodDescriptor yX12_beds.desc).map (fun d => d.parameters.length) = some 2 := ⟨rfl, cd_yX12_beds_2⟩
theorem cv_yX11_lot_1 : yX11_lot.cls = RX11 ∧ yX11_lot.cls ≠ "java/lang/invoke/MethodHandle" ∧ yX11_lot.cls ≠ "java/lang/invoke/VarHandle" ∧ (parseMethodDescriptor yX11_lot.desc).map (fun d => d.parameters.length) = some 1 := ⟨rfl, cd_yX11_lot_1⟩
theorem cv_yX12_lot_1 : yX12_lot.cls = RX12 ∧ yX12_lot.cls ≠ "java/lang/invoke/MethodHandle" ∧ yX12_lot.cls ≠ "java/lang/invoke/VarHandle" ∧ (parseMethodDescriptor yX12_lot.desc).map (fun d => d.parameters.length) = some 1 := ⟨rfl, cd_yX12_lot_1⟩
theorem cv_yX11_person_5 : yX11_person.cls = RX11 ∧ yX11_person.cls ≠ "java/lang/invoke/MethodHandle" ∧ yX11_person.cls ≠ "java/lang/invoke/VarHandle" ∧ (parseMethodDescriptor yX11_person.desc).map (fun d => d.parameters.length) = some 5 := ⟨rfl, cd_yX11_person_5⟩
theorem cv_yX12_person_5 : yX12_person.cls = RX12 ∧ yX12_person.cls ≠ "java/lang/invoke/MethodHandle" ∧ yX12_person.cls ≠ "java/lang/invoke/VarHandle" ∧ (parseMethodDescriptor yX12_person.desc).map (fun d => d.parameters.length) = some 5 := ⟨rfl, cd_yX12_person_5⟩
theorem cv_yX11_go_2 : yX11_go.cls = RX11 ∧ yX11_go.cls ≠ "java/lang/invoke/MethodHandle" ∧ yX11_go.cls ≠ "java/lang/invoke/VarHandle" ∧ (parseMethodDescriptor yX11_go.desc).map (fun d => d.parameters.length) = some 2 := ⟨rfl, cd_yX11_go_2⟩
theorem cv_yX12_go_2 : yX12_go.cls = RX12 ∧ yX12_go.cls ≠ "java/lang/invoke/MethodHandle" ∧ yX12_go.cls ≠ "java/lang/invoke/VarHandle" ∧ (parseMethodDescriptor yX12_go.desc).map (fun d => d.parameters.length) = some 2 := ⟨rfl, cd_yX12_go_2⟩
theorem cv_yX11_death_1 : yX11_death.cls = RX11 ∧ yX11_death.cls ≠ "java/lang/invoke/MethodHandle" ∧ yX11_death.cls ≠ "java/lang/invoke/VarHandle" ∧ (parseMethodDescriptor yX11_death.desc).map (fun d => d.parameters.length) = some 1 := ⟨rfl, cd_yX11_death_1⟩
theorem cv_yX12_death_1 : yX12_death.cls = RX12 ∧ yX12_death.cls ≠ "java/lang/invoke/MethodHandle" ∧ yX12_death.cls ≠ "java/lang/invoke/VarHandle" ∧ (parseMethodDescriptor yX12_death.desc).map (fun d => d.parameters.length) = some 1 := ⟨rfl, cd_yX12_death_1⟩
theorem cv_yX11_title_2 : yX11_title.cls = RX11 ∧ yX11_title.cls ≠ "java/lang/invoke/MethodHandle" ∧ yX11_title.cls ≠ "java/lang/invoke/VarHandle" ∧ (parseMethodDescriptor yX11_title.desc).map (fun d => d.parameters.length) = some 2 := ⟨rfl, cd_yX11_title_2⟩
theorem cv_yX12_title_2 : yX12_title.cls = RX12 ∧ yX12_title.cls ≠ "java/lang/invoke/MethodHandle" ∧ yX12_title.cls ≠ "java/lang/invoke/VarHandle" ∧ (parseMethodDescriptor yX12_title.desc).map (fun d => d.parameters.length) = some 2 := ⟨rfl, cd_yX12_title_2⟩
theorem cv_yX11_titleOf_2 : yX11_titleOf.cls = RX11 ∧ yX11_titleOf.cls ≠ "java/lang/invoke/MethodHandle" ∧ yX11_titleOf.cls ≠ "java/lang/invoke/VarHandle" ∧ (parseMethodDescriptor yX11_titleOf.desc).map (fun d => d.parameters.length) = some 2 := ⟨rfl, cd_yX11_titleOf_2⟩
theorem cv_yX12_titleOf_2 : yX12_titleOf.cls = RX12 ∧ yX12_titleOf.cls ≠ "java/lang/invoke/MethodHandle" ∧ yX12_titleOf.cls ≠ "java/lang/invoke/VarHandle" ∧ (parseMethodDescriptor yX12_titleOf.desc).map (fun d => d.parameters.length) = some 2 := ⟨rfl, cd_yX12_titleOf_2⟩
theorem cv_yX11_feed_5 : yX11_feed.cls = RX11 ∧ yX11_feed.cls ≠ "java/lang/invoke/MethodHandle" ∧ yX11_feed.cls ≠ "java/lang/invoke/VarHandle" ∧ (parseMethodDescriptor yX11_feed.desc).map (fun d => d.parameters.length) = some 5 := ⟨rfl, cd_yX11_feed_5⟩
theorem cv_yX12_feed_5 : yX12_feed.cls = RX12 ∧ yX12_feed.cls ≠ "java/lang/invoke/MethodHandle" ∧ yX12_feed.cls ≠ "java/lang/invoke/VarHandle" ∧ (parseMethodDescriptor yX12_feed.desc).map (fun d => d.parameters.length) = some 5 := ⟨rfl, cd_yX12_feed_5⟩
theorem cv_yX11_end_1 : yX11_end.cls = RX11 ∧ yX11_end.cls ≠ "java/lang/invoke/MethodHandle" ∧ yX11_end.cls ≠ "java/lang/invoke/VarHandle" ∧ (parseMethodDescriptor yX11_end.desc).map (fun d => d.parameters.length) = some 1 := ⟨rfl, cd_yX11_end_1⟩
theorem cv_yX12_end_1 : yX12_end.cls = RX12 ∧ yX12_end.cls ≠ "java/lang/invoke/MethodHandle" ∧ yX12_end.cls ≠ "java/lang/invoke/VarHandle" ∧ (parseMethodDescriptor yX12_end.desc).map (fun d => d.parameters.length) = some 1 := ⟨rfl, cd_yX12_end_1⟩
theorem cv_yX11_text_0 : yX11_text.cls = RX11 ∧ yX11_text.cls ≠ "java/lang/invoke/MethodHandle" ∧ yX11_text.cls ≠ "java/lang/invoke/VarHandle" ∧ (parseMethodDescriptor yX11_text.desc).map (fun d => d.parameters.length) = some 0 := ⟨rfl, cd_yX11_text_0⟩
theorem cv_yX12_text_0 : yX12_text.cls = RX12 ∧ yX12_text.cls ≠ "java/lang/invoke/MethodHandle" ∧ yX12_text.cls ≠ "java/lang/invoke/VarHandle" ∧ (parseMethodDescriptor yX12_text.desc).map (fun d => d.parameters.length) = some 0 := ⟨rfl, cd_yX12_text_0⟩
theorem cv_yX11_fault_1 : yX11_fault.cls = RX11 ∧ yX11_fault.cls ≠ "java/lang/invoke/MethodHandle" ∧ yX11_fault.cls ≠ "java/lang/invoke/VarHandle" ∧ (parseMethodDescriptor yX11_fault.desc).map (fun d => d.parameters.length) = some 1 := ⟨rfl, cd_yX11_fault_1⟩
theorem cv_yX12_fault_1 : yX12_fault.cls = RX12 ∧ yX12_fault.cls ≠ "java/lang/invoke/MethodHandle" ∧ yX12_fault.cls ≠ "java/lang/invoke/VarHandle" ∧ (parseMethodDescriptor yX12_fault.desc).map (fun d => d.parameters.length) = some 1 := ⟨rfl, cd_yX12_fault_1⟩
theorem cv_yX11_force_3 : yX11_force.cls = RX11 ∧ yX11_force.cls ≠ "java/lang/invoke/MethodHandle" ∧ yX11_force.cls ≠ "java/lang/invoke/VarHandle" ∧ (parseMethodDescriptor yX11_force.desc).map (fun d => d.parameters.length) = some 3 := ⟨rfl, cd_yX11_force_3⟩
theorem cv_yX12_force_3 : yX12_force.cls = RX12 ∧ yX12_force.cls ≠ "java/lang/invoke/MethodHandle" ∧ yX12_force.cls ≠ "java/lang/invoke/VarHandle" ∧ (parseMethodDescriptor yX12_force.desc).map (fun d => d.parameters.length) = some 3 := ⟨rfl, cd_yX12_force_3⟩
theorem cv_yX11_is_3 : yX11_is.cls = RX11 ∧ yX11_is.cls ≠ "java/lang/invoke/MethodHandle" ∧ yX11_is.cls ≠ "java/lang/invoke/VarHandle" ∧ (parseMethodDescriptor yX11_is.desc).map (fun d => d.parameters.length) = some 3 := ⟨rfl, cd_yX11_is_3⟩
theorem cv_yX12_is_3 : yX12_is.cls = RX12 ∧ yX12_is.cls ≠ "java/lang/invoke/MethodHandle" ∧ yX12_is.cls ≠ "java/lang/invoke/VarHandle" ∧ (parseMethodDescriptor yX12_is.desc).map (fun d => d.parameters.length) = some 3 := ⟨rfl, cd_yX12_is_3⟩
theorem cv_yX11_why_3 : yX11_why.cls = RX11 ∧ yX11_why.cls ≠ "java/lang/invoke/MethodHandle" ∧ yX11_why.cls ≠ "java/lang/invoke/VarHandle" ∧ (parseMethodDescriptor yX11_why.desc).map (fun d => d.parameters.length) = some 3 := ⟨rfl, cd_yX11_why_3⟩
theorem cv_yX12_why_3 : yX12_why.cls = RX12 ∧ yX12_why.cls ≠ "java/lang/invoke/MethodHandle" ∧ yX12_why.cls ≠ "java/lang/invoke/VarHandle" ∧ (parseMethodDescriptor yX12_why.desc).map (fun d => d.parameters.length) = some 3 := ⟨rfl, cd_yX12_why_3⟩
theorem cv_yX11_says_2 : yX11_says.cls = RX11 ∧ yX11_says.cls ≠ "java/lang/invoke/MethodHandle" ∧ yX11_says.cls ≠ "java/lang/invoke/VarHandle" ∧ (parseMethodDescriptor yX11_says.desc).map (fun d => d.parameters.length) = some 2 := ⟨rfl, cd_yX11_says_2⟩
theorem cv_yX12_says_2 : yX12_says.cls = RX12 ∧ yX12_says.cls ≠ "java/lang/invoke/MethodHandle" ∧ yX12_says.cls ≠ "java/lang/invoke/VarHandle" ∧ (parseMethodDescriptor yX12_says.desc).map (fun d => d.parameters.length) = some 2 := ⟨rfl, cd_yX12_says_2⟩
theorem cv_yX11_sail_2 : yX11_sail.cls = RX11 ∧ yX11_sail.cls ≠ "java/lang/invoke/MethodHandle" ∧ yX11_sail.cls ≠ "java/lang/invoke/VarHandle" ∧ (parseMethodDescriptor yX11_sail.desc).map (fun d => d.parameters.length) = some 2 := ⟨rfl, cd_yX11_sail_2⟩
theorem cv_yX12_sail_2 : yX12_sail.cls = RX12 ∧ yX12_sail.cls ≠ "java/lang/invoke/MethodHandle" ∧ yX12_sail.cls ≠ "java/lang/invoke/VarHandle" ∧ (parseMethodDescriptor yX12_sail.desc).map (fun d => d.parameters.length) = some 2 := ⟨rfl, cd_yX12_sail_2⟩
theorem cv_yX11_months_2 : yX11_months.cls = RX11 ∧ yX11_months.cls ≠ "java/lang/invoke/MethodHandle" ∧ yX11_months.cls ≠ "java/lang/invoke/VarHandle" ∧ (parseMethodDescriptor yX11_months.desc).map (fun d => d.parameters.length) = some 2 := ⟨rfl, cd_yX11_months_2⟩
theorem cv_yX12_months_2 : yX12_months.cls = RX12 ∧ yX12_months.cls ≠ "java/lang/invoke/MethodHandle" ∧ yX12_months.cls ≠ "java/lang/invoke/VarHandle" ∧ (parseMethodDescriptor yX12_months.desc).map (fun d => d.parameters.length) = some 2 := ⟨rfl, cd_yX12_months_2⟩
theorem cv_yX11_cellOf_2 : yX11_cellOf.cls = RX11 ∧ yX11_cellOf.cls ≠ "java/lang/invoke/MethodHandle" ∧ yX11_cellOf.cls ≠ "java/lang/invoke/VarHandle" ∧ (parseMethodDescriptor yX11_cellOf.desc).map (fun d => d.parameters.length) = some 2 := ⟨rfl, cd_yX11_cellOf_2⟩
theorem cv_yX12_cellOf_2 : yX12_cellOf.cls = RX12 ∧ yX12_cellOf.cls ≠ "java/lang/invoke/MethodHandle" ∧ yX12_cellOf.cls ≠ "java/lang/invoke/VarHandle" ∧ (parseMethodDescriptor yX12_cellOf.desc).map (fun d => d.parameters.length) = some 2 := ⟨rfl, cd_yX12_cellOf_2⟩
theorem cv_yX11_personOf_2 : yX11_personOf.cls = RX11 ∧ yX11_personOf.cls ≠ "java/lang/invoke/MethodHandle" ∧ yX11_personOf.cls ≠ "java/lang/invoke/VarHandle" ∧ (parseMethodDescriptor yX11_personOf.desc).map (fun d => d.parameters.length) = some 2 := ⟨rfl, cd_yX11_personOf_2⟩
theorem cv_yX12_personOf_2 : yX12_personOf.cls = RX12 ∧ yX12_personOf.cls ≠ "java/lang/invoke/MethodHandle" ∧ yX12_personOf.cls ≠ "java/lang/invoke/VarHandle" ∧ (parseMethodDescriptor yX12_personOf.desc).map (fun d => d.parameters.length) = some 2 := ⟨rfl, cd_yX12_personOf_2⟩
theorem cv_yX11_at_1 : yX11_at.cls = RX11 ∧ yX11_at.cls ≠ "java/lang/invoke/MethodHandle" ∧ yX11_at.cls ≠ "java/lang/invoke/VarHandle" ∧ (parseMethodDescriptor yX11_at.desc).map (fun d => d.parameters.length) = some 1 := ⟨rfl, cd_yX11_at_1⟩
theorem cv_yX12_at_1 : yX12_at.cls = RX12 ∧ yX12_at.cls ≠ "java/lang/invoke/MethodHandle" ∧ yX12_at.cls ≠ "java/lang/invoke/VarHandle" ∧ (parseMethodDescriptor yX12_at.desc).map (fun d => d.parameters.length) = some 1 := ⟨rfl, cd_yX12_at_1⟩
theorem cv_yX11_area_0 : yX11_area.cls = RX11 ∧ yX11_area.cls ≠ "java/lang/invoke/MethodHandle" ∧ yX11_area.cls ≠ "java/lang/invoke/VarHandle" ∧ (parseMethodDescriptor yX11_area.desc).map (fun d => d.parameters.length) = some 0 := ⟨rfl, cd_yX11_area_0⟩
theorem cv_yX12_area_0 : yX12_area.cls = RX12 ∧ yX12_area.cls ≠ "java/lang/invoke/MethodHandle" ∧ yX12_area.cls ≠ "java/lang/invoke/VarHandle" ∧ (parseMethodDescriptor yX12_area.desc).map (fun d => d.parameters.length) = some 0 := ⟨rfl, cd_yX12_area_0⟩
theorem cv_yX11_choose_2 : yX11_choose.cls = RX11 ∧ yX11_choose.cls ≠ "java/lang/invoke/MethodHandle" ∧ yX11_choose.cls ≠ "java/lang/invoke/VarHandle" ∧ (parseMethodDescriptor yX11_choose.desc).map (fun d => d.parameters.length) = some 2 := ⟨rfl, cd_yX11_choose_2⟩
theorem cv_yX12_choose_2 : yX12_choose.cls = RX12 ∧ yX12_choose.cls ≠ "java/lang/invoke/MethodHandle" ∧ yX12_choose.cls ≠ "java/lang/invoke/VarHandle" ∧ (parseMethodDescriptor yX12_choose.desc).map (fun d => d.parameters.length) = some 2 := ⟨rfl, cd_yX12_choose_2⟩
theorem cv_yX11_council_1 : yX11_council.cls = RX11 ∧ yX11_council.cls ≠ "java/lang/invoke/MethodHandle" ∧ yX11_council.cls ≠ "java/lang/invoke/VarHandle" ∧ (parseMethodDescriptor yX11_council.desc).map (fun d => d.parameters.length) = some 1 := ⟨rfl, cd_yX11_council_1⟩
theorem cv_yX12_council_1 : yX12_council.cls = RX12 ∧ yX12_council.cls ≠ "java/lang/invoke/MethodHandle" ∧ yX12_council.cls ≠ "java/lang/invoke/VarHandle" ∧ (parseMethodDescriptor yX12_council.desc).map (fun d => d.parameters.length) = some 1 := ⟨rfl, cd_yX12_council_1⟩
theorem cv_yX11_sinks_3 : yX11_sinks.cls = RX11 ∧ yX11_sinks.cls ≠ "java/lang/invoke/MethodHandle" ∧ yX11_sinks.cls ≠ "java/lang/invoke/VarHandle" ∧ (parseMethodDescriptor yX11_sinks.desc).map (fun d => d.parameters.length) = some 3 := ⟨rfl, cd_yX11_sinks_3⟩
theorem cv_yX12_sinks_3 : yX12_sinks.cls = RX12 ∧ yX12_sinks.cls ≠ "java/lang/invoke/MethodHandle" ∧ yX12_sinks.cls ≠ "java/lang/invoke/VarHandle" ∧ (parseMethodDescriptor yX12_sinks.desc).map (fun d => d.parameters.length) = some 3 := ⟨rfl, cd_yX12_sinks_3⟩
theorem cv_yX11_cant_2 : yX11_cant.cls = RX11 ∧ yX11_cant.cls ≠ "java/lang/invoke/MethodHandle" ∧ yX11_cant.cls ≠ "java/lang/invoke/VarHandle" ∧ (parseMethodDescriptor yX11_cant.desc).map (fun d => d.parameters.length) = some 2 := ⟨rfl, cd_yX11_cant_2⟩
theorem cv_yX12_cant_2 : yX12_cant.cls = RX12 ∧ yX12_cant.cls ≠ "java/lang/invoke/MethodHandle" ∧ yX12_cant.cls ≠ "java/lang/invoke/VarHandle" ∧ (parseMethodDescriptor yX12_cant.desc).map (fun d => d.parameters.length) = some 2 := ⟨rfl, cd_yX12_cant_2⟩
theorem cv_yX11_keeps_4 : yX11_keeps.cls = RX11 ∧ yX11_keeps.cls ≠ "java/lang/invoke/MethodHandle" ∧ yX11_keeps.cls ≠ "java/lang/invoke/VarHandle" ∧ (parseMethodDescriptor yX11_keeps.desc).map (fun d => d.parameters.length) = some 4 := ⟨rfl, cd_yX11_keeps_4⟩
theorem cv_yX12_keeps_4 : yX12_keeps.cls = RX12 ∧ yX12_keeps.cls ≠ "java/lang/invoke/MethodHandle" ∧ yX12_keeps.cls ≠ "java/lang/invoke/VarHandle" ∧ (parseMethodDescriptor yX12_keeps.desc).map (fun d => d.parameters.length) = some 4 := ⟨rfl, cd_yX12_keeps_4⟩
theorem cv_yX11_order_3 : yX11_order.cls = RX11 ∧ yX11_order.cls ≠ "java/lang/invoke/MethodHandle" ∧ yX11_order.cls ≠ "java/lang/invoke/VarHandle" ∧ (parseMethodDescriptor yX11_order.desc).map (fun d => d.parameters.length) = some 3 := ⟨rfl, cd_yX11_order_3⟩
theorem cv_yX12_order_3 : yX12_order.cls = RX12 ∧ yX12_order.cls ≠ "java/lang/invoke/MethodHandle" ∧ yX12_order.cls ≠ "java/lang/invoke/VarHandle" ∧ (parseMethodDescriptor yX12_order.desc).map (fun d => d.parameters.length) = some 3 := ⟨rfl, cd_yX12_order_3⟩
theorem cv_yX11_grave_1 : yX11_grave.cls = RX11 ∧ yX11_grave.cls ≠ "java/lang/invoke/MethodHandle" ∧ yX11_grave.cls ≠ "java/lang/invoke/VarHandle" ∧ (parseMethodDescriptor yX11_grave.desc).map (fun d => d.parameters.length) = some 1 := ⟨rfl, cd_yX11_grave_1⟩
theorem cv_yX12_grave_1 : yX12_grave.cls = RX12 ∧ yX12_grave.cls ≠ "java/lang/invoke/MethodHandle" ∧ yX12_grave.cls ≠ "java/lang/invoke/VarHandle" ∧ (parseMethodDescriptor yX12_grave.desc).map (fun d => d.parameters.length) = some 1 := ⟨rfl, cd_yX12_grave_1⟩
theorem cv_yX11_bury_2 : yX11_bury.cls = RX11 ∧ yX11_bury.cls ≠ "java/lang/invoke/MethodHandle" ∧ yX11_bury.cls ≠ "java/lang/invoke/VarHandle" ∧ (parseMethodDescriptor yX11_bury.desc).map (fun d => d.parameters.length) = some 2 := ⟨rfl, cd_yX11_bury_2⟩
theorem cv_yX12_bury_2 : yX12_bury.cls = RX12 ∧ yX12_bury.cls ≠ "java/lang/invoke/MethodHandle" ∧ yX12_bury.cls ≠ "java/lang/invoke/VarHandle" ∧ (parseMethodDescriptor yX12_bury.desc).map (fun d => d.parameters.length) = some 2 := ⟨rfl, cd_yX12_bury_2⟩
theorem cv_yX11_found_2 : yX11_found.cls = RX11 ∧ yX11_found.cls ≠ "java/lang/invoke/MethodHandle" ∧ yX11_found.cls ≠ "java/lang/invoke/VarHandle" ∧ (parseMethodDescriptor yX11_found.desc).map (fun d => d.parameters.length) = some 2 := ⟨rfl, cd_yX11_found_2⟩
theorem cv_yX12_found_2 : yX12_found.cls = RX12 ∧ yX12_found.cls ≠ "java/lang/invoke/MethodHandle" ∧ yX12_found.cls ≠ "java/lang/invoke/VarHandle" ∧ (parseMethodDescriptor yX12_found.desc).map (fun d => d.parameters.length) = some 2 := ⟨rfl, cd_yX12_found_2⟩
theorem cv_yX11_image_0 : yX11_image.cls = RX11 ∧ yX11_image.cls ≠ "java/lang/invoke/MethodHandle" ∧ yX11_image.cls ≠ "java/lang/invoke/VarHandle" ∧ (parseMethodDescriptor yX11_image.desc).map (fun d => d.parameters.length) = some 0 := ⟨rfl, cd_yX11_image_0⟩
theorem cv_yX12_image_0 : yX12_image.cls = RX12 ∧ yX12_image.cls ≠ "java/lang/invoke/MethodHandle" ∧ yX12_image.cls ≠ "java/lang/invoke/VarHandle" ∧ (parseMethodDescriptor yX12_image.desc).map (fun d => d.parameters.length) = some 0 := ⟨rfl, cd_yX12_image_0⟩
theorem cv_yX11_back_0 : yX11_back.cls = RX11 ∧ yX11_back.cls ≠ "java/lang/invoke/MethodHandle" ∧ yX11_back.cls ≠ "java/lang/invoke/VarHandle" ∧ (parseMethodDescriptor yX11_back.desc).map (fun d => d.parameters.length) = some 0 := ⟨rfl, cd_yX11_back_0⟩
theorem cv_yX12_back_0 : yX12_back.cls = RX12 ∧ yX12_back.cls ≠ "java/lang/invoke/MethodHandle" ∧ yX12_back.cls ≠ "java/lang/invoke/VarHandle" ∧ (parseMethodDescriptor yX12_back.desc).map (fun d => d.parameters.length) = some 0 := ⟨rfl, cd_yX12_back_0⟩
theorem cv_yX11_about_1 : yX11_about.cls = RX11 ∧ yX11_about.cls ≠ "java/lang/invoke/MethodHandle" ∧ yX11_about.cls ≠ "java/lang/invoke/VarHandle" ∧ (parseMethodDescriptor yX11_about.desc).map (fun d => d.parameters.length) = some 1 := ⟨rfl, cd_yX11_about_1⟩
theorem cv_yX12_about_1 : yX12_about.cls = RX12 ∧ yX12_about.cls ≠ "java/lang/invoke/MethodHandle" ∧ yX12_about.cls ≠ "java/lang/invoke/VarHandle" ∧ (parseMethodDescriptor yX12_about.desc).map (fun d => d.parameters.length) = some 1 := ⟨rfl, cd_yX12_about_1⟩
theorem tq_static_yX11_copy : Cond.static yX11_copy ∈ wsL_law := sg_46 _ (List.mem_of_getElem? (i := 21) rfl)
theorem tq_static_yX11_hasBit : Cond.static yX11_hasBit ∈ wsL_law := sg_24 _ (List.mem_of_getElem? (i := 7) rfl)
theorem tq_static_yX11_fill : Cond.static yX11_fill ∈ wsL_law := sg_4 _ (List.mem_of_getElem? (i := 3) rfl)
theorem tq_instanceMethod_yX8_init : Cond.instanceMethod yX8_init ∈ wsL_law := sg_7 _ (List.mem_of_getElem? (i := 22) rfl)
theorem tq_instanceMethod_yX9_init : Cond.instanceMethod yX9_init ∈ wsL_law := sg_5 _ (List.mem_of_getElem? (i := 5) rfl)
theorem tq_instanceMethod_yX0_init : Cond.instanceMethod yX0_init ∈ wsL_law := sg_5 _ (List.mem_of_getElem? (i := 11) rfl)
theorem tq_instanceMethod_yX3_init : Cond.instanceMethod yX3_init ∈ wsL_law := sg_6 _ (List.mem_of_getElem? (i := 4) rfl)
theorem tq_instanceMethod_yX1_init : Cond.instanceMethod yX1_init ∈ wsL_law := sg_6 _ (List.mem_of_getElem? (i := 14) rfl)
theorem tq_instanceMethod_yX6_init : Cond.instanceMethod yX6_init ∈ wsL_law := sg_7 _ (List.mem_of_getElem? (i := 18) rfl)
theorem tq_instanceMethod_yX5_init : Cond.instanceMethod yX5_init ∈ wsL_law := sg_6 _ (List.mem_of_getElem? (i := 19) rfl)
theorem tq_instanceMethod_yX4_init : Cond.instanceMethod yX4_init ∈ wsL_law := sg_7 _ (List.mem_of_getElem? (i := 4) rfl)
/-! ===== instructions by their bytes ===== -/
def pfx : List UInt8 → List Nat → Bool
  | _, [] => true
  | [], _ :: _ => false
  | a :: s, n :: l => a.toNat == n && pfx s l
theorem pfx_u1 {c : ByteArray} {p n : Nat} {l : List Nat} (h : pfx (c.data.toList.drop p) (n :: l) = true) : (Reader.u1 : Decoder Nat) c p = .ok (n, p + 1) ∧ pfx (c.data.toList.drop (p + 1)) l = true := by
  obtain ⟨⟨d⟩⟩ := c
  by_cases hlt : p < d.length
  · have h1 : pfx (d.drop p) (n :: l) = true := h
    rw [List.drop_eq_getElem_cons hlt] at h1
    have h2 : (d[p].toNat == n && pfx (d.drop (p + 1)) l) = true := h1
    simp only [Bool.and_eq_true, beq_iff_eq] at h2
    obtain ⟨e, h3⟩ := h2
    refine ⟨?_, h3⟩
    have hsz : p < (ByteArray.mk (Array.mk d)).size := hlt
    have hu : (Reader.u1 : Decoder Nat) (ByteArray.mk (Array.mk d)) p = (dite (p < (ByteArray.mk (Array.mk d)).size) (fun h => (Except.ok (((ByteArray.mk (Array.mk d))[p]'h).toNat, p + 1) : Except DecodeError (Nat × Nat))) (fun _ => Except.error (HasTruncated.truncated p))) := by
      unfold Reader.u1
      by_cases hz : p < (ByteArray.mk (Array.mk d)).size
      · rw [dif_pos hz]
        show (dite (p < (ByteArray.mk (Array.mk d)).size) (fun h => (do set (p + 1); pure ((ByteArray.mk (Array.mk d))[p]'h).toNat : Decoder Nat)) (fun _ => throw (HasTruncated.truncated p))) (ByteArray.mk (Array.mk d)) p = _
        rw [dif_pos hz]
        rfl
      · exact absurd hsz hz
    rw [hu, dif_pos hsz, ← e]
    rfl
  · have h1 : pfx (d.drop p) (n :: l) = true := h
    rw [List.drop_eq_nil_of_le (Nat.le_of_not_lt hlt)] at h1
    exact Bool.noConfusion (show false = true from h1)
theorem oc_bd {α β : Type} {m : Decoder α} {k : α → Decoder β} {c : ByteArray} {p q : Nat} {v : α} (h : m c p = .ok (v, q)) : (m >>= k) c p = k v c q := by
  have e : (m >>= k) c p = Except.bind (m c p) (fun r => k r.1 c r.2) := rfl
  rw [e, h]
  rfl
theorem oc_mp {α β : Type} {m : Decoder α} {f : α → β} {c : ByteArray} {p q : Nat} {v : α} (h : m c p = .ok (v, q)) : (f <$> m) c p = .ok (f v, q) := by
  have e : (f <$> m) c p = Except.bind (m c p) (fun r => Except.ok (f r.1, r.2)) := rfl
  rw [e, h]
  rfl
theorem oc_dc {c : ByteArray} {p q n : Nat} {i : Instr} (h : (Decoder.instr p) c p = .ok (i, q)) (hn : q = p + n) : decode c p = .ok (i, n) := by
  have e : decode c p = Except.bind ((Decoder.instr p) c p) (fun r => Except.ok (r.1, r.2 - p)) := rfl
  rw [e, h, hn]
  show Except.ok (i, p + n - p) = _
  rw [Nat.add_sub_cancel_left]
theorem oc_u2 {c : ByteArray} {p a b : Nat} {l : List Nat} (h : pfx (c.data.toList.drop p) (a :: b :: l) = true) : (Reader.u2 : Decoder Nat) c p = .ok (a * 256 + b, p + 1 + 1) ∧ pfx (c.data.toList.drop (p + 1 + 1)) l = true := by
  have x := pfx_u1 h
  have y := pfx_u1 x.2
  refine ⟨?_, y.2⟩
  unfold Reader.u2
  exact (oc_bd x.1).trans ((oc_bd y.1).trans rfl)
theorem oc_s2 {c : ByteArray} {p a b : Nat} {l : List Nat} (h : pfx (c.data.toList.drop p) (a :: b :: l) = true) : (Reader.s2 : Decoder Int) c p = .ok (Reader.signed 16 (a * 256 + b), p + 1 + 1) := oc_mp (oc_u2 h).1
theorem oc_s1 {c : ByteArray} {p a : Nat} {l : List Nat} (h : pfx (c.data.toList.drop p) (a :: l) = true) : (Reader.s1 : Decoder Int) c p = .ok (Reader.signed 8 a, p + 1) := oc_mp (pfx_u1 h).1
theorem oc_1 {c : ByteArray} {p : Nat} (h : pfx (c.data.toList.drop p) [1] = true) : decode c p = .ok (.aconst_null, 1) := oc_dc (q := p + 1) ((oc_bd (pfx_u1 h).1).trans rfl) rfl
theorem oc_2 {c : ByteArray} {p : Nat} (h : pfx (c.data.toList.drop p) [2] = true) : decode c p = .ok (.iconst (-1), 1) := oc_dc (q := p + 1) ((oc_bd (pfx_u1 h).1).trans rfl) rfl
theorem oc_3 {c : ByteArray} {p : Nat} (h : pfx (c.data.toList.drop p) [3] = true) : decode c p = .ok (.iconst 0, 1) := oc_dc (q := p + 1) ((oc_bd (pfx_u1 h).1).trans rfl) rfl
theorem oc_4 {c : ByteArray} {p : Nat} (h : pfx (c.data.toList.drop p) [4] = true) : decode c p = .ok (.iconst 1, 1) := oc_dc (q := p + 1) ((oc_bd (pfx_u1 h).1).trans rfl) rfl
theorem oc_5 {c : ByteArray} {p : Nat} (h : pfx (c.data.toList.drop p) [5] = true) : decode c p = .ok (.iconst 2, 1) := oc_dc (q := p + 1) ((oc_bd (pfx_u1 h).1).trans rfl) rfl
theorem oc_6 {c : ByteArray} {p : Nat} (h : pfx (c.data.toList.drop p) [6] = true) : decode c p = .ok (.iconst 3, 1) := oc_dc (q := p + 1) ((oc_bd (pfx_u1 h).1).trans rfl) rfl
theorem oc_7 {c : ByteArray} {p : Nat} (h : pfx (c.data.toList.drop p) [7] = true) : decode c p = .ok (.iconst 4, 1) := oc_dc (q := p + 1) ((oc_bd (pfx_u1 h).1).trans rfl) rfl
theorem oc_8 {c : ByteArray} {p : Nat} (h : pfx (c.data.toList.drop p) [8] = true) : decode c p = .ok (.iconst 5, 1) := oc_dc (q := p + 1) ((oc_bd (pfx_u1 h).1).trans rfl) rfl
theorem oc_9 {c : ByteArray} {p : Nat} (h : pfx (c.data.toList.drop p) [9] = true) : decode c p = .ok (.lconst 0, 1) := oc_dc (q := p + 1) ((oc_bd (pfx_u1 h).1).trans rfl) rfl
theorem oc_10 {c : ByteArray} {p : Nat} (h : pfx (c.data.toList.drop p) [10] = true) : decode c p = .ok (.lconst 1, 1) := oc_dc (q := p + 1) ((oc_bd (pfx_u1 h).1).trans rfl) rfl
theorem oc_16 {c : ByteArray} {p a : Nat} {v : Int} (h : (pfx (c.data.toList.drop p) [16, a] && (Reader.signed 8 a == v)) = true) : decode c p = .ok (.bipush v, 2) := by
  simp only [Bool.and_eq_true, beq_iff_eq] at h
  obtain ⟨h, e⟩ := h
  subst e
  exact oc_dc (q := p + 1 + 1) ((oc_bd (pfx_u1 h).1).trans ((oc_bd (oc_s1 (pfx_u1 h).2)).trans rfl)) rfl
theorem oc_17 {c : ByteArray} {p a b : Nat} {v : Int} (h : (pfx (c.data.toList.drop p) [17, a, b] && (Reader.signed 16 (a * 256 + b) == v)) = true) : decode c p = .ok (.sipush v, 3) := by
  simp only [Bool.and_eq_true, beq_iff_eq] at h
  obtain ⟨h, e⟩ := h
  subst e
  exact oc_dc (q := p + 1 + 1 + 1) ((oc_bd (pfx_u1 h).1).trans ((oc_bd (oc_s2 (pfx_u1 h).2)).trans rfl)) rfl
theorem oc_18 {c : ByteArray} {p a : Nat} (h : pfx (c.data.toList.drop p) [18, a] = true) : decode c p = .ok (.ldc a, 2) := oc_dc (q := p + 1 + 1) ((oc_bd (pfx_u1 h).1).trans ((oc_bd (pfx_u1 (pfx_u1 h).2).1).trans rfl)) rfl
theorem oc_19 {c : ByteArray} {p a b v : Nat} (h : (pfx (c.data.toList.drop p) [19, a, b] && (a * 256 + b == v)) = true) : decode c p = .ok (.ldc_w v, 3) := by
  simp only [Bool.and_eq_true, beq_iff_eq] at h
  obtain ⟨h, e⟩ := h
  subst e
  exact oc_dc (q := p + 1 + 1 + 1) ((oc_bd (pfx_u1 h).1).trans ((oc_bd (oc_u2 (pfx_u1 h).2).1).trans rfl)) rfl
theorem oc_20 {c : ByteArray} {p a b v : Nat} (h : (pfx (c.data.toList.drop p) [20, a, b] && (a * 256 + b == v)) = true) : decode c p = .ok (.ldc2_w v, 3) := by
  simp only [Bool.and_eq_true, beq_iff_eq] at h
  obtain ⟨h, e⟩ := h
  subst e
  exact oc_dc (q := p + 1 + 1 + 1) ((oc_bd (pfx_u1 h).1).trans ((oc_bd (oc_u2 (pfx_u1 h).2).1).trans rfl)) rfl
theorem oc_21 {c : ByteArray} {p a : Nat} (h : pfx (c.data.toList.drop p) [21, a] = true) : decode c p = .ok (.iload a, 2) := oc_dc (q := p + 1 + 1) ((oc_bd (pfx_u1 h).1).trans ((oc_bd (pfx_u1 (pfx_u1 h).2).1).trans rfl)) rfl
theorem oc_22 {c : ByteArray} {p a : Nat} (h : pfx (c.data.toList.drop p) [22, a] = true) : decode c p = .ok (.lload a, 2) := oc_dc (q := p + 1 + 1) ((oc_bd (pfx_u1 h).1).trans ((oc_bd (pfx_u1 (pfx_u1 h).2).1).trans rfl)) rfl
theorem oc_25 {c : ByteArray} {p a : Nat} (h : pfx (c.data.toList.drop p) [25, a] = true) : decode c p = .ok (.aload a, 2) := oc_dc (q := p + 1 + 1) ((oc_bd (pfx_u1 h).1).trans ((oc_bd (pfx_u1 (pfx_u1 h).2).1).trans rfl)) rfl
theorem oc_26 {c : ByteArray} {p : Nat} (h : pfx (c.data.toList.drop p) [26] = true) : decode c p = .ok (.iload_n 0, 1) := oc_dc (q := p + 1) ((oc_bd (pfx_u1 h).1).trans rfl) rfl
theorem oc_27 {c : ByteArray} {p : Nat} (h : pfx (c.data.toList.drop p) [27] = true) : decode c p = .ok (.iload_n 1, 1) := oc_dc (q := p + 1) ((oc_bd (pfx_u1 h).1).trans rfl) rfl
theorem oc_28 {c : ByteArray} {p : Nat} (h : pfx (c.data.toList.drop p) [28] = true) : decode c p = .ok (.iload_n 2, 1) := oc_dc (q := p + 1) ((oc_bd (pfx_u1 h).1).trans rfl) rfl
theorem oc_29 {c : ByteArray} {p : Nat} (h : pfx (c.data.toList.drop p) [29] = true) : decode c p = .ok (.iload_n 3, 1) := oc_dc (q := p + 1) ((oc_bd (pfx_u1 h).1).trans rfl) rfl
theorem oc_30 {c : ByteArray} {p : Nat} (h : pfx (c.data.toList.drop p) [30] = true) : decode c p = .ok (.lload_n 0, 1) := oc_dc (q := p + 1) ((oc_bd (pfx_u1 h).1).trans rfl) rfl
theorem oc_31 {c : ByteArray} {p : Nat} (h : pfx (c.data.toList.drop p) [31] = true) : decode c p = .ok (.lload_n 1, 1) := oc_dc (q := p + 1) ((oc_bd (pfx_u1 h).1).trans rfl) rfl
theorem oc_32 {c : ByteArray} {p : Nat} (h : pfx (c.data.toList.drop p) [32] = true) : decode c p = .ok (.lload_n 2, 1) := oc_dc (q := p + 1) ((oc_bd (pfx_u1 h).1).trans rfl) rfl
theorem oc_33 {c : ByteArray} {p : Nat} (h : pfx (c.data.toList.drop p) [33] = true) : decode c p = .ok (.lload_n 3, 1) := oc_dc (q := p + 1) ((oc_bd (pfx_u1 h).1).trans rfl) rfl
theorem oc_42 {c : ByteArray} {p : Nat} (h : pfx (c.data.toList.drop p) [42] = true) : decode c p = .ok (.aload_n 0, 1) := oc_dc (q := p + 1) ((oc_bd (pfx_u1 h).1).trans rfl) rfl
theorem oc_43 {c : ByteArray} {p : Nat} (h : pfx (c.data.toList.drop p) [43] = true) : decode c p = .ok (.aload_n 1, 1) := oc_dc (q := p + 1) ((oc_bd (pfx_u1 h).1).trans rfl) rfl
theorem oc_44 {c : ByteArray} {p : Nat} (h : pfx (c.data.toList.drop p) [44] = true) : decode c p = .ok (.aload_n 2, 1) := oc_dc (q := p + 1) ((oc_bd (pfx_u1 h).1).trans rfl) rfl
theorem oc_45 {c : ByteArray} {p : Nat} (h : pfx (c.data.toList.drop p) [45] = true) : decode c p = .ok (.aload_n 3, 1) := oc_dc (q := p + 1) ((oc_bd (pfx_u1 h).1).trans rfl) rfl
theorem oc_46 {c : ByteArray} {p : Nat} (h : pfx (c.data.toList.drop p) [46] = true) : decode c p = .ok (.iaload, 1) := oc_dc (q := p + 1) ((oc_bd (pfx_u1 h).1).trans rfl) rfl
theorem oc_47 {c : ByteArray} {p : Nat} (h : pfx (c.data.toList.drop p) [47] = true) : decode c p = .ok (.laload, 1) := oc_dc (q := p + 1) ((oc_bd (pfx_u1 h).1).trans rfl) rfl
theorem oc_50 {c : ByteArray} {p : Nat} (h : pfx (c.data.toList.drop p) [50] = true) : decode c p = .ok (.aaload, 1) := oc_dc (q := p + 1) ((oc_bd (pfx_u1 h).1).trans rfl) rfl
theorem oc_51 {c : ByteArray} {p : Nat} (h : pfx (c.data.toList.drop p) [51] = true) : decode c p = .ok (.baload, 1) := oc_dc (q := p + 1) ((oc_bd (pfx_u1 h).1).trans rfl) rfl
theorem oc_54 {c : ByteArray} {p a : Nat} (h : pfx (c.data.toList.drop p) [54, a] = true) : decode c p = .ok (.istore a, 2) := oc_dc (q := p + 1 + 1) ((oc_bd (pfx_u1 h).1).trans ((oc_bd (pfx_u1 (pfx_u1 h).2).1).trans rfl)) rfl
theorem oc_55 {c : ByteArray} {p a : Nat} (h : pfx (c.data.toList.drop p) [55, a] = true) : decode c p = .ok (.lstore a, 2) := oc_dc (q := p + 1 + 1) ((oc_bd (pfx_u1 h).1).trans ((oc_bd (pfx_u1 (pfx_u1 h).2).1).trans rfl)) rfl
theorem oc_58 {c : ByteArray} {p a : Nat} (h : pfx (c.data.toList.drop p) [58, a] = true) : decode c p = .ok (.astore a, 2) := oc_dc (q := p + 1 + 1) ((oc_bd (pfx_u1 h).1).trans ((oc_bd (pfx_u1 (pfx_u1 h).2).1).trans rfl)) rfl
theorem oc_59 {c : ByteArray} {p : Nat} (h : pfx (c.data.toList.drop p) [59] = true) : decode c p = .ok (.istore_n 0, 1) := oc_dc (q := p + 1) ((oc_bd (pfx_u1 h).1).trans rfl) rfl
theorem oc_60 {c : ByteArray} {p : Nat} (h : pfx (c.data.toList.drop p) [60] = true) : decode c p = .ok (.istore_n 1, 1) := oc_dc (q := p + 1) ((oc_bd (pfx_u1 h).1).trans rfl) rfl
theorem oc_61 {c : ByteArray} {p : Nat} (h : pfx (c.data.toList.drop p) [61] = true) : decode c p = .ok (.istore_n 2, 1) := oc_dc (q := p + 1) ((oc_bd (pfx_u1 h).1).trans rfl) rfl
theorem oc_62 {c : ByteArray} {p : Nat} (h : pfx (c.data.toList.drop p) [62] = true) : decode c p = .ok (.istore_n 3, 1) := oc_dc (q := p + 1) ((oc_bd (pfx_u1 h).1).trans rfl) rfl
theorem oc_63 {c : ByteArray} {p : Nat} (h : pfx (c.data.toList.drop p) [63] = true) : decode c p = .ok (.lstore_n 0, 1) := oc_dc (q := p + 1) ((oc_bd (pfx_u1 h).1).trans rfl) rfl
theorem oc_64 {c : ByteArray} {p : Nat} (h : pfx (c.data.toList.drop p) [64] = true) : decode c p = .ok (.lstore_n 1, 1) := oc_dc (q := p + 1) ((oc_bd (pfx_u1 h).1).trans rfl) rfl
theorem oc_65 {c : ByteArray} {p : Nat} (h : pfx (c.data.toList.drop p) [65] = true) : decode c p = .ok (.lstore_n 2, 1) := oc_dc (q := p + 1) ((oc_bd (pfx_u1 h).1).trans rfl) rfl
theorem oc_66 {c : ByteArray} {p : Nat} (h : pfx (c.data.toList.drop p) [66] = true) : decode c p = .ok (.lstore_n 3, 1) := oc_dc (q := p + 1) ((oc_bd (pfx_u1 h).1).trans rfl) rfl
theorem oc_76 {c : ByteArray} {p : Nat} (h : pfx (c.data.toList.drop p) [76] = true) : decode c p = .ok (.astore_n 1, 1) := oc_dc (q := p + 1) ((oc_bd (pfx_u1 h).1).trans rfl) rfl
theorem oc_77 {c : ByteArray} {p : Nat} (h : pfx (c.data.toList.drop p) [77] = true) : decode c p = .ok (.astore_n 2, 1) := oc_dc (q := p + 1) ((oc_bd (pfx_u1 h).1).trans rfl) rfl
theorem oc_78 {c : ByteArray} {p : Nat} (h : pfx (c.data.toList.drop p) [78] = true) : decode c p = .ok (.astore_n 3, 1) := oc_dc (q := p + 1) ((oc_bd (pfx_u1 h).1).trans rfl) rfl
theorem oc_79 {c : ByteArray} {p : Nat} (h : pfx (c.data.toList.drop p) [79] = true) : decode c p = .ok (.iastore, 1) := oc_dc (q := p + 1) ((oc_bd (pfx_u1 h).1).trans rfl) rfl
theorem oc_80 {c : ByteArray} {p : Nat} (h : pfx (c.data.toList.drop p) [80] = true) : decode c p = .ok (.lastore, 1) := oc_dc (q := p + 1) ((oc_bd (pfx_u1 h).1).trans rfl) rfl
theorem oc_83 {c : ByteArray} {p : Nat} (h : pfx (c.data.toList.drop p) [83] = true) : decode c p = .ok (.aastore, 1) := oc_dc (q := p + 1) ((oc_bd (pfx_u1 h).1).trans rfl) rfl
theorem oc_84 {c : ByteArray} {p : Nat} (h : pfx (c.data.toList.drop p) [84] = true) : decode c p = .ok (.bastore, 1) := oc_dc (q := p + 1) ((oc_bd (pfx_u1 h).1).trans rfl) rfl
theorem oc_87 {c : ByteArray} {p : Nat} (h : pfx (c.data.toList.drop p) [87] = true) : decode c p = .ok (.pop, 1) := oc_dc (q := p + 1) ((oc_bd (pfx_u1 h).1).trans rfl) rfl
theorem oc_89 {c : ByteArray} {p : Nat} (h : pfx (c.data.toList.drop p) [89] = true) : decode c p = .ok (.dup, 1) := oc_dc (q := p + 1) ((oc_bd (pfx_u1 h).1).trans rfl) rfl
theorem oc_92 {c : ByteArray} {p : Nat} (h : pfx (c.data.toList.drop p) [92] = true) : decode c p = .ok (.dup2, 1) := oc_dc (q := p + 1) ((oc_bd (pfx_u1 h).1).trans rfl) rfl
theorem oc_96 {c : ByteArray} {p : Nat} (h : pfx (c.data.toList.drop p) [96] = true) : decode c p = .ok (.iadd, 1) := oc_dc (q := p + 1) ((oc_bd (pfx_u1 h).1).trans rfl) rfl
theorem oc_97 {c : ByteArray} {p : Nat} (h : pfx (c.data.toList.drop p) [97] = true) : decode c p = .ok (.ladd, 1) := oc_dc (q := p + 1) ((oc_bd (pfx_u1 h).1).trans rfl) rfl
theorem oc_100 {c : ByteArray} {p : Nat} (h : pfx (c.data.toList.drop p) [100] = true) : decode c p = .ok (.isub, 1) := oc_dc (q := p + 1) ((oc_bd (pfx_u1 h).1).trans rfl) rfl
theorem oc_101 {c : ByteArray} {p : Nat} (h : pfx (c.data.toList.drop p) [101] = true) : decode c p = .ok (.lsub, 1) := oc_dc (q := p + 1) ((oc_bd (pfx_u1 h).1).trans rfl) rfl
theorem oc_104 {c : ByteArray} {p : Nat} (h : pfx (c.data.toList.drop p) [104] = true) : decode c p = .ok (.imul, 1) := oc_dc (q := p + 1) ((oc_bd (pfx_u1 h).1).trans rfl) rfl
theorem oc_105 {c : ByteArray} {p : Nat} (h : pfx (c.data.toList.drop p) [105] = true) : decode c p = .ok (.lmul, 1) := oc_dc (q := p + 1) ((oc_bd (pfx_u1 h).1).trans rfl) rfl
theorem oc_108 {c : ByteArray} {p : Nat} (h : pfx (c.data.toList.drop p) [108] = true) : decode c p = .ok (.idiv, 1) := oc_dc (q := p + 1) ((oc_bd (pfx_u1 h).1).trans rfl) rfl
theorem oc_109 {c : ByteArray} {p : Nat} (h : pfx (c.data.toList.drop p) [109] = true) : decode c p = .ok (.ldiv, 1) := oc_dc (q := p + 1) ((oc_bd (pfx_u1 h).1).trans rfl) rfl
theorem oc_112 {c : ByteArray} {p : Nat} (h : pfx (c.data.toList.drop p) [112] = true) : decode c p = .ok (.irem, 1) := oc_dc (q := p + 1) ((oc_bd (pfx_u1 h).1).trans rfl) rfl
theorem oc_116 {c : ByteArray} {p : Nat} (h : pfx (c.data.toList.drop p) [116] = true) : decode c p = .ok (.ineg, 1) := oc_dc (q := p + 1) ((oc_bd (pfx_u1 h).1).trans rfl) rfl
theorem oc_117 {c : ByteArray} {p : Nat} (h : pfx (c.data.toList.drop p) [117] = true) : decode c p = .ok (.lneg, 1) := oc_dc (q := p + 1) ((oc_bd (pfx_u1 h).1).trans rfl) rfl
theorem oc_120 {c : ByteArray} {p : Nat} (h : pfx (c.data.toList.drop p) [120] = true) : decode c p = .ok (.ishl, 1) := oc_dc (q := p + 1) ((oc_bd (pfx_u1 h).1).trans rfl) rfl
theorem oc_121 {c : ByteArray} {p : Nat} (h : pfx (c.data.toList.drop p) [121] = true) : decode c p = .ok (.lshl, 1) := oc_dc (q := p + 1) ((oc_bd (pfx_u1 h).1).trans rfl) rfl
theorem oc_122 {c : ByteArray} {p : Nat} (h : pfx (c.data.toList.drop p) [122] = true) : decode c p = .ok (.ishr, 1) := oc_dc (q := p + 1) ((oc_bd (pfx_u1 h).1).trans rfl) rfl
theorem oc_123 {c : ByteArray} {p : Nat} (h : pfx (c.data.toList.drop p) [123] = true) : decode c p = .ok (.lshr, 1) := oc_dc (q := p + 1) ((oc_bd (pfx_u1 h).1).trans rfl) rfl
theorem oc_124 {c : ByteArray} {p : Nat} (h : pfx (c.data.toList.drop p) [124] = true) : decode c p = .ok (.iushr, 1) := oc_dc (q := p + 1) ((oc_bd (pfx_u1 h).1).trans rfl) rfl
theorem oc_125 {c : ByteArray} {p : Nat} (h : pfx (c.data.toList.drop p) [125] = true) : decode c p = .ok (.lushr, 1) := oc_dc (q := p + 1) ((oc_bd (pfx_u1 h).1).trans rfl) rfl
theorem oc_126 {c : ByteArray} {p : Nat} (h : pfx (c.data.toList.drop p) [126] = true) : decode c p = .ok (.iand, 1) := oc_dc (q := p + 1) ((oc_bd (pfx_u1 h).1).trans rfl) rfl
theorem oc_127 {c : ByteArray} {p : Nat} (h : pfx (c.data.toList.drop p) [127] = true) : decode c p = .ok (.land, 1) := oc_dc (q := p + 1) ((oc_bd (pfx_u1 h).1).trans rfl) rfl
theorem oc_128 {c : ByteArray} {p : Nat} (h : pfx (c.data.toList.drop p) [128] = true) : decode c p = .ok (.ior, 1) := oc_dc (q := p + 1) ((oc_bd (pfx_u1 h).1).trans rfl) rfl
theorem oc_129 {c : ByteArray} {p : Nat} (h : pfx (c.data.toList.drop p) [129] = true) : decode c p = .ok (.lor, 1) := oc_dc (q := p + 1) ((oc_bd (pfx_u1 h).1).trans rfl) rfl
theorem oc_132 {c : ByteArray} {p a b : Nat} {v : Int} (h : (pfx (c.data.toList.drop p) [132, a, b] && (Reader.signed 8 b == v)) = true) : decode c p = .ok (.iinc a v, 3) := by
  simp only [Bool.and_eq_true, beq_iff_eq] at h
  obtain ⟨h, e⟩ := h
  subst e
  exact oc_dc (q := p + 1 + 1 + 1) ((oc_bd (pfx_u1 h).1).trans ((oc_bd (pfx_u1 (pfx_u1 h).2).1).trans ((oc_bd (oc_s1 (pfx_u1 (pfx_u1 h).2).2)).trans rfl))) rfl
theorem oc_133 {c : ByteArray} {p : Nat} (h : pfx (c.data.toList.drop p) [133] = true) : decode c p = .ok (.i2l, 1) := oc_dc (q := p + 1) ((oc_bd (pfx_u1 h).1).trans rfl) rfl
theorem oc_136 {c : ByteArray} {p : Nat} (h : pfx (c.data.toList.drop p) [136] = true) : decode c p = .ok (.l2i, 1) := oc_dc (q := p + 1) ((oc_bd (pfx_u1 h).1).trans rfl) rfl
theorem oc_146 {c : ByteArray} {p : Nat} (h : pfx (c.data.toList.drop p) [146] = true) : decode c p = .ok (.i2c, 1) := oc_dc (q := p + 1) ((oc_bd (pfx_u1 h).1).trans rfl) rfl
theorem oc_148 {c : ByteArray} {p : Nat} (h : pfx (c.data.toList.drop p) [148] = true) : decode c p = .ok (.lcmp, 1) := oc_dc (q := p + 1) ((oc_bd (pfx_u1 h).1).trans rfl) rfl
theorem oc_153 {c : ByteArray} {p a b : Nat} {v : Int} (h : (pfx (c.data.toList.drop p) [153, a, b] && (Reader.signed 16 (a * 256 + b) == v)) = true) : decode c p = .ok (.ifCond .eq v, 3) := by
  simp only [Bool.and_eq_true, beq_iff_eq] at h
  obtain ⟨h, e⟩ := h
  subst e
  exact oc_dc (q := p + 1 + 1 + 1) ((oc_bd (pfx_u1 h).1).trans ((oc_bd (oc_s2 (pfx_u1 h).2)).trans rfl)) rfl
theorem oc_154 {c : ByteArray} {p a b : Nat} {v : Int} (h : (pfx (c.data.toList.drop p) [154, a, b] && (Reader.signed 16 (a * 256 + b) == v)) = true) : decode c p = .ok (.ifCond .ne v, 3) := by
  simp only [Bool.and_eq_true, beq_iff_eq] at h
  obtain ⟨h, e⟩ := h
  subst e
  exact oc_dc (q := p + 1 + 1 + 1) ((oc_bd (pfx_u1 h).1).trans ((oc_bd (oc_s2 (pfx_u1 h).2)).trans rfl)) rfl
theorem oc_155 {c : ByteArray} {p a b : Nat} {v : Int} (h : (pfx (c.data.toList.drop p) [155, a, b] && (Reader.signed 16 (a * 256 + b) == v)) = true) : decode c p = .ok (.ifCond .lt v, 3) := by
  simp only [Bool.and_eq_true, beq_iff_eq] at h
  obtain ⟨h, e⟩ := h
  subst e
  exact oc_dc (q := p + 1 + 1 + 1) ((oc_bd (pfx_u1 h).1).trans ((oc_bd (oc_s2 (pfx_u1 h).2)).trans rfl)) rfl
theorem oc_156 {c : ByteArray} {p a b : Nat} {v : Int} (h : (pfx (c.data.toList.drop p) [156, a, b] && (Reader.signed 16 (a * 256 + b) == v)) = true) : decode c p = .ok (.ifCond .ge v, 3) := by
  simp only [Bool.and_eq_true, beq_iff_eq] at h
  obtain ⟨h, e⟩ := h
  subst e
  exact oc_dc (q := p + 1 + 1 + 1) ((oc_bd (pfx_u1 h).1).trans ((oc_bd (oc_s2 (pfx_u1 h).2)).trans rfl)) rfl
theorem oc_157 {c : ByteArray} {p a b : Nat} {v : Int} (h : (pfx (c.data.toList.drop p) [157, a, b] && (Reader.signed 16 (a * 256 + b) == v)) = true) : decode c p = .ok (.ifCond .gt v, 3) := by
  simp only [Bool.and_eq_true, beq_iff_eq] at h
  obtain ⟨h, e⟩ := h
  subst e
  exact oc_dc (q := p + 1 + 1 + 1) ((oc_bd (pfx_u1 h).1).trans ((oc_bd (oc_s2 (pfx_u1 h).2)).trans rfl)) rfl
theorem oc_158 {c : ByteArray} {p a b : Nat} {v : Int} (h : (pfx (c.data.toList.drop p) [158, a, b] && (Reader.signed 16 (a * 256 + b) == v)) = true) : decode c p = .ok (.ifCond .le v, 3) := by
  simp only [Bool.and_eq_true, beq_iff_eq] at h
  obtain ⟨h, e⟩ := h
  subst e
  exact oc_dc (q := p + 1 + 1 + 1) ((oc_bd (pfx_u1 h).1).trans ((oc_bd (oc_s2 (pfx_u1 h).2)).trans rfl)) rfl
theorem oc_159 {c : ByteArray} {p a b : Nat} {v : Int} (h : (pfx (c.data.toList.drop p) [159, a, b] && (Reader.signed 16 (a * 256 + b) == v)) = true) : decode c p = .ok (.if_icmp .eq v, 3) := by
  simp only [Bool.and_eq_true, beq_iff_eq] at h
  obtain ⟨h, e⟩ := h
  subst e
  exact oc_dc (q := p + 1 + 1 + 1) ((oc_bd (pfx_u1 h).1).trans ((oc_bd (oc_s2 (pfx_u1 h).2)).trans rfl)) rfl
theorem oc_160 {c : ByteArray} {p a b : Nat} {v : Int} (h : (pfx (c.data.toList.drop p) [160, a, b] && (Reader.signed 16 (a * 256 + b) == v)) = true) : decode c p = .ok (.if_icmp .ne v, 3) := by
  simp only [Bool.and_eq_true, beq_iff_eq] at h
  obtain ⟨h, e⟩ := h
  subst e
  exact oc_dc (q := p + 1 + 1 + 1) ((oc_bd (pfx_u1 h).1).trans ((oc_bd (oc_s2 (pfx_u1 h).2)).trans rfl)) rfl
theorem oc_161 {c : ByteArray} {p a b : Nat} {v : Int} (h : (pfx (c.data.toList.drop p) [161, a, b] && (Reader.signed 16 (a * 256 + b) == v)) = true) : decode c p = .ok (.if_icmp .lt v, 3) := by
  simp only [Bool.and_eq_true, beq_iff_eq] at h
  obtain ⟨h, e⟩ := h
  subst e
  exact oc_dc (q := p + 1 + 1 + 1) ((oc_bd (pfx_u1 h).1).trans ((oc_bd (oc_s2 (pfx_u1 h).2)).trans rfl)) rfl
theorem oc_162 {c : ByteArray} {p a b : Nat} {v : Int} (h : (pfx (c.data.toList.drop p) [162, a, b] && (Reader.signed 16 (a * 256 + b) == v)) = true) : decode c p = .ok (.if_icmp .ge v, 3) := by
  simp only [Bool.and_eq_true, beq_iff_eq] at h
  obtain ⟨h, e⟩ := h
  subst e
  exact oc_dc (q := p + 1 + 1 + 1) ((oc_bd (pfx_u1 h).1).trans ((oc_bd (oc_s2 (pfx_u1 h).2)).trans rfl)) rfl
theorem oc_163 {c : ByteArray} {p a b : Nat} {v : Int} (h : (pfx (c.data.toList.drop p) [163, a, b] && (Reader.signed 16 (a * 256 + b) == v)) = true) : decode c p = .ok (.if_icmp .gt v, 3) := by
  simp only [Bool.and_eq_true, beq_iff_eq] at h
  obtain ⟨h, e⟩ := h
  subst e
  exact oc_dc (q := p + 1 + 1 + 1) ((oc_bd (pfx_u1 h).1).trans ((oc_bd (oc_s2 (pfx_u1 h).2)).trans rfl)) rfl
theorem oc_164 {c : ByteArray} {p a b : Nat} {v : Int} (h : (pfx (c.data.toList.drop p) [164, a, b] && (Reader.signed 16 (a * 256 + b) == v)) = true) : decode c p = .ok (.if_icmp .le v, 3) := by
  simp only [Bool.and_eq_true, beq_iff_eq] at h
  obtain ⟨h, e⟩ := h
  subst e
  exact oc_dc (q := p + 1 + 1 + 1) ((oc_bd (pfx_u1 h).1).trans ((oc_bd (oc_s2 (pfx_u1 h).2)).trans rfl)) rfl
theorem oc_167 {c : ByteArray} {p a b : Nat} {v : Int} (h : (pfx (c.data.toList.drop p) [167, a, b] && (Reader.signed 16 (a * 256 + b) == v)) = true) : decode c p = .ok (.goto v, 3) := by
  simp only [Bool.and_eq_true, beq_iff_eq] at h
  obtain ⟨h, e⟩ := h
  subst e
  exact oc_dc (q := p + 1 + 1 + 1) ((oc_bd (pfx_u1 h).1).trans ((oc_bd (oc_s2 (pfx_u1 h).2)).trans rfl)) rfl
theorem oc_172 {c : ByteArray} {p : Nat} (h : pfx (c.data.toList.drop p) [172] = true) : decode c p = .ok (.ireturn, 1) := oc_dc (q := p + 1) ((oc_bd (pfx_u1 h).1).trans rfl) rfl
theorem oc_173 {c : ByteArray} {p : Nat} (h : pfx (c.data.toList.drop p) [173] = true) : decode c p = .ok (.lreturn, 1) := oc_dc (q := p + 1) ((oc_bd (pfx_u1 h).1).trans rfl) rfl
theorem oc_176 {c : ByteArray} {p : Nat} (h : pfx (c.data.toList.drop p) [176] = true) : decode c p = .ok (.areturn, 1) := oc_dc (q := p + 1) ((oc_bd (pfx_u1 h).1).trans rfl) rfl
theorem oc_177 {c : ByteArray} {p : Nat} (h : pfx (c.data.toList.drop p) [177] = true) : decode c p = .ok (.return_, 1) := oc_dc (q := p + 1) ((oc_bd (pfx_u1 h).1).trans rfl) rfl
theorem oc_178 {c : ByteArray} {p a b v : Nat} (h : (pfx (c.data.toList.drop p) [178, a, b] && (a * 256 + b == v)) = true) : decode c p = .ok (.getstatic v, 3) := by
  simp only [Bool.and_eq_true, beq_iff_eq] at h
  obtain ⟨h, e⟩ := h
  subst e
  exact oc_dc (q := p + 1 + 1 + 1) ((oc_bd (pfx_u1 h).1).trans ((oc_bd (oc_u2 (pfx_u1 h).2).1).trans rfl)) rfl
theorem oc_180 {c : ByteArray} {p a b v : Nat} (h : (pfx (c.data.toList.drop p) [180, a, b] && (a * 256 + b == v)) = true) : decode c p = .ok (.getfield v, 3) := by
  simp only [Bool.and_eq_true, beq_iff_eq] at h
  obtain ⟨h, e⟩ := h
  subst e
  exact oc_dc (q := p + 1 + 1 + 1) ((oc_bd (pfx_u1 h).1).trans ((oc_bd (oc_u2 (pfx_u1 h).2).1).trans rfl)) rfl
theorem oc_181 {c : ByteArray} {p a b v : Nat} (h : (pfx (c.data.toList.drop p) [181, a, b] && (a * 256 + b == v)) = true) : decode c p = .ok (.putfield v, 3) := by
  simp only [Bool.and_eq_true, beq_iff_eq] at h
  obtain ⟨h, e⟩ := h
  subst e
  exact oc_dc (q := p + 1 + 1 + 1) ((oc_bd (pfx_u1 h).1).trans ((oc_bd (oc_u2 (pfx_u1 h).2).1).trans rfl)) rfl
theorem oc_182 {c : ByteArray} {p a b v : Nat} (h : (pfx (c.data.toList.drop p) [182, a, b] && (a * 256 + b == v)) = true) : decode c p = .ok (.invokevirtual v, 3) := by
  simp only [Bool.and_eq_true, beq_iff_eq] at h
  obtain ⟨h, e⟩ := h
  subst e
  exact oc_dc (q := p + 1 + 1 + 1) ((oc_bd (pfx_u1 h).1).trans ((oc_bd (oc_u2 (pfx_u1 h).2).1).trans rfl)) rfl
theorem oc_183 {c : ByteArray} {p a b v : Nat} (h : (pfx (c.data.toList.drop p) [183, a, b] && (a * 256 + b == v)) = true) : decode c p = .ok (.invokespecial v, 3) := by
  simp only [Bool.and_eq_true, beq_iff_eq] at h
  obtain ⟨h, e⟩ := h
  subst e
  exact oc_dc (q := p + 1 + 1 + 1) ((oc_bd (pfx_u1 h).1).trans ((oc_bd (oc_u2 (pfx_u1 h).2).1).trans rfl)) rfl
theorem oc_184 {c : ByteArray} {p a b v : Nat} (h : (pfx (c.data.toList.drop p) [184, a, b] && (a * 256 + b == v)) = true) : decode c p = .ok (.invokestatic v, 3) := by
  simp only [Bool.and_eq_true, beq_iff_eq] at h
  obtain ⟨h, e⟩ := h
  subst e
  exact oc_dc (q := p + 1 + 1 + 1) ((oc_bd (pfx_u1 h).1).trans ((oc_bd (oc_u2 (pfx_u1 h).2).1).trans rfl)) rfl
theorem oc_187 {c : ByteArray} {p a b v : Nat} (h : (pfx (c.data.toList.drop p) [187, a, b] && (a * 256 + b == v)) = true) : decode c p = .ok (.new v, 3) := by
  simp only [Bool.and_eq_true, beq_iff_eq] at h
  obtain ⟨h, e⟩ := h
  subst e
  exact oc_dc (q := p + 1 + 1 + 1) ((oc_bd (pfx_u1 h).1).trans ((oc_bd (oc_u2 (pfx_u1 h).2).1).trans rfl)) rfl
theorem oc_189 {c : ByteArray} {p a b v : Nat} (h : (pfx (c.data.toList.drop p) [189, a, b] && (a * 256 + b == v)) = true) : decode c p = .ok (.anewarray v, 3) := by
  simp only [Bool.and_eq_true, beq_iff_eq] at h
  obtain ⟨h, e⟩ := h
  subst e
  exact oc_dc (q := p + 1 + 1 + 1) ((oc_bd (pfx_u1 h).1).trans ((oc_bd (oc_u2 (pfx_u1 h).2).1).trans rfl)) rfl
theorem oc_190 {c : ByteArray} {p : Nat} (h : pfx (c.data.toList.drop p) [190] = true) : decode c p = .ok (.arraylength, 1) := oc_dc (q := p + 1) ((oc_bd (pfx_u1 h).1).trans rfl) rfl
theorem oc_198 {c : ByteArray} {p a b : Nat} {v : Int} (h : (pfx (c.data.toList.drop p) [198, a, b] && (Reader.signed 16 (a * 256 + b) == v)) = true) : decode c p = .ok (.ifnull v, 3) := by
  simp only [Bool.and_eq_true, beq_iff_eq] at h
  obtain ⟨h, e⟩ := h
  subst e
  exact oc_dc (q := p + 1 + 1 + 1) ((oc_bd (pfx_u1 h).1).trans ((oc_bd (oc_s2 (pfx_u1 h).2)).trans rfl)) rfl
theorem oc_199 {c : ByteArray} {p a b : Nat} {v : Int} (h : (pfx (c.data.toList.drop p) [199, a, b] && (Reader.signed 16 (a * 256 + b) == v)) = true) : decode c p = .ok (.ifnonnull v, 3) := by
  simp only [Bool.and_eq_true, beq_iff_eq] at h
  obtain ⟨h, e⟩ := h
  subst e
  exact oc_dc (q := p + 1 + 1 + 1) ((oc_bd (pfx_u1 h).1).trans ((oc_bd (oc_s2 (pfx_u1 h).2)).trans rfl)) rfl
/-! ===== my own pool: the cells of one side by their addresses: shape (addresses, kinds, references, lengths) and contents ===== -/
abbrev pq_T : Type := ClassId × ClassId × ClassId × ClassId
abbrev pq_S : Type := List Nat × (Nat → Nat) × (Nat → Nat → Option Nat) × (Nat → Nat)
abbrev pq_M : Type := (Nat → Nat → Int32) × (Nat → Nat → Int64) × (Nat → Nat → Int32) × (Nat → Nat → Int64) × (Nat → Nat → Option Nat)
def pq_fl (R : Nat → Nat → Option Nat) (I : Nat → Nat → Int32) (J : Nat → Nat → Int64) (k a : Nat) : List Value := match k with
  | 0 => [.int (I 0 a), va_rf (R 1 a), va_rf (R 2 a), va_rf (R 3 a), va_rf (R 4 a), va_rf (R 5 a), va_rf (R 6 a), va_rf (R 7 a), va_rf (R 8 a), va_rf (R 9 a), .int (I 10 a), va_rf (R 11 a), va_rf (R 12 a), va_rf (R 13 a), va_rf (R 14 a), va_rf (R 15 a)]
  | 1 => [.int (I 32 a), va_rf (R 33 a), va_rf (R 34 a)]
  | 2 => [.int (I 64 a), .int (I 65 a), .int (I 66 a), .long (J 67 a), va_rf (R 68 a), va_rf (R 69 a), va_rf (R 70 a), va_rf (R 71 a), va_rf (R 72 a), va_rf (R 73 a), va_rf (R 74 a), va_rf (R 75 a), va_rf (R 76 a), va_rf (R 77 a), va_rf (R 78 a), va_rf (R 79 a), va_rf (R 80 a), va_rf (R 81 a), va_rf (R 82 a), va_rf (R 83 a)]
  | 3 => [.int (I 96 a), va_rf (R 97 a), .int (I 98 a), va_rf (R 99 a), va_rf (R 100 a), va_rf (R 101 a), va_rf (R 102 a), va_rf (R 103 a)]
  | 4 => [va_rf (R 128 a), .int (I 129 a), .int (I 130 a), va_rf (R 131 a), .int (I 132 a), va_rf (R 133 a), .int (I 134 a), .int (I 135 a), .int (I 136 a), .int (I 137 a), .int (I 138 a), .int (I 139 a)]
  | 5 => [.int (I 160 a), va_rf (R 161 a), va_rf (R 162 a), va_rf (R 163 a), .int (I 164 a), va_rf (R 165 a), va_rf (R 166 a), va_rf (R 167 a)]
  | 6 => [va_rf (R 192 a), .int (I 193 a), .int (I 194 a), .int (I 195 a), .int (I 196 a), .int (I 197 a)]
  | 7 => [.int (I 224 a), va_rf (R 225 a), va_rf (R 226 a), va_rf (R 227 a), va_rf (R 228 a), va_rf (R 229 a), va_rf (R 230 a), va_rf (R 231 a), va_rf (R 232 a), va_rf (R 233 a), .int (I 234 a), .int (I 235 a), .int (I 236 a), .int (I 237 a), .int (I 238 a)]
  | 8 => [.int (I 256 a), va_rf (R 257 a), va_rf (R 258 a), va_rf (R 259 a)]
  | 9 => [va_rf (R 288 a), va_rf (R 289 a), va_rf (R 290 a)]
  | 10 => [.int (I 320 a), .int (I 321 a), .int (I 322 a), .int (I 323 a), .int (I 324 a), va_rf (R 325 a), va_rf (R 326 a), va_rf (R 327 a), va_rf (R 328 a), va_rf (R 329 a), va_rf (R 330 a), va_rf (R 331 a), va_rf (R 332 a)]
  | 11 => [va_rf (R 352 a), va_rf (R 353 a), va_rf (R 354 a), va_rf (R 355 a), va_rf (R 356 a)]
  | 12 => [va_rf (R 384 a), va_rf (R 385 a), va_rf (R 386 a), va_rf (R 387 a), .int (I 388 a), .int (I 389 a), .int (I 390 a), .int (I 391 a), .int (I 392 a), .int (I 393 a), .int (I 394 a), .long (J 395 a), .int (I 396 a), .int (I 397 a), .int (I 398 a), .int (I 399 a), va_rf (R 400 a), .int (I 401 a), .int (I 402 a), .int (I 403 a), va_rf (R 404 a), va_rf (R 405 a), .int (I 406 a), .int (I 407 a), va_rf (R 408 a), va_rf (R 409 a), .int (I 410 a), va_rf (R 411 a), va_rf (R 412 a), va_rf (R 413 a), va_rf (R 414 a)]
  | _ => []
def pq_E (t : pq_T) (σ : pq_S) (μ : pq_M) (a : Nat) : va_E := match σ.2.1 a with
  | 13 => .inl (t.1, σ.2.2.2 a, .inl (μ.2.2.1 a))
  | 14 => .inl (t.2.1, σ.2.2.2 a, .inr (.inl (μ.2.2.2.1 a)))
  | 15 => .inl (t.2.2.1, σ.2.2.2 a, .inl (μ.2.2.1 a))
  | 16 => .inl (t.2.2.2, σ.2.2.2 a, .inr (.inr (.inr (.inr (μ.2.2.2.2 a)))))
  | k => .inr (k, pq_fl σ.2.2.1 μ.1 μ.2.1 k a)
def pq_P (t : pq_T) (σ : pq_S) (μ : pq_M) : va_W := va_pl σ.1 (pq_E t σ μ)
def pq_u {α : Type} (I : Nat → Nat → α) (f a : Nat) (v : α) : Nat → Nat → α := fun g => if g = f then va_up (I g) a v else I g
theorem pq_us {α : Type} (I : Nat → Nat → α) (f a : Nat) (v : α) : pq_u I f a v f a = v := by simp [pq_u, va_up]
theorem pq_ua {α : Type} (I : Nat → Nat → α) (f : Nat) {a b : Nat} (v : α) (g : Nat) (h : b ≠ a) : pq_u I f a v g b = I g b := by
  unfold pq_u
  split
  · exact va_up_ne _ _ h
  · rfl
theorem pq_uf {α : Type} (I : Nat → Nat → α) {f g : Nat} (a : Nat) (v : α) (h : g ≠ f) : pq_u I f a v g = I g := by simp [pq_u, h]
def pq_ty (t : pq_T) : List (ClassId × FieldType) := [(t.1, .int), (t.2.1, .long), (t.2.2.1, .boolean), (t.2.2.2, .object "RingsUnder$Text")]
theorem pq_o {t : pq_T} {σ : pq_S} {μ : pq_M} {a k : Nat} (hk : k < 13) (h : σ.2.1 a = k) : pq_E t σ μ a = .inr (k, pq_fl σ.2.2.1 μ.1 μ.2.1 k a) := by
  unfold pq_E
  rw [h]
  have h2 : k = 0 ∨ k = 1 ∨ k = 2 ∨ k = 3 ∨ k = 4 ∨ k = 5 ∨ k = 6 ∨ k = 7 ∨ k = 8 ∨ k = 9 ∨ k = 10 ∨ k = 11 ∨ k = 12 := by omega
  rcases h2 with h2 | h2 | h2 | h2 | h2 | h2 | h2 | h2 | h2 | h2 | h2 | h2 | h2 <;> subst h2 <;> rfl
theorem pq_oI {t : pq_T} {σ : pq_S} {μ : pq_M} {a : Nat} (h : σ.2.1 a = 13) : pq_E t σ μ a = .inl (t.1, σ.2.2.2 a, .inl (μ.2.2.1 a)) := by unfold pq_E; rw [h]; rfl
theorem pq_oJ {t : pq_T} {σ : pq_S} {μ : pq_M} {a : Nat} (h : σ.2.1 a = 14) : pq_E t σ μ a = .inl (t.2.1, σ.2.2.2 a, .inr (.inl (μ.2.2.2.1 a))) := by unfold pq_E; rw [h]; rfl
theorem pq_oZ {t : pq_T} {σ : pq_S} {μ : pq_M} {a : Nat} (h : σ.2.1 a = 15) : pq_E t σ μ a = .inl (t.2.2.1, σ.2.2.2 a, .inl (μ.2.2.1 a)) := by unfold pq_E; rw [h]; rfl
theorem pq_oQ {t : pq_T} {σ : pq_S} {μ : pq_M} {a : Nat} (h : σ.2.1 a = 16) : pq_E t σ μ a = .inl (t.2.2.2, σ.2.2.2 a, .inr (.inr (.inr (.inr (μ.2.2.2.2 a))))) := by unfold pq_E; rw [h]; rfl
theorem pq_in {t : pq_T} {σ : pq_S} {μ : pq_M} {a : Nat} (h : a ∈ σ.1) : ∃ k : Nat, (pq_P t σ μ)[k]? = some (a, pq_E t σ μ a) := va_pl_get (X := []) h
theorem pq_set {A : Nat → Prop} {t : pq_T} {σ : pq_S} {μ μ1 : pq_M} {a q : Nat} {e : va_E} (hD : va_D A (pq_P t σ μ)) (h : a ∈ σ.1) (hq : (pq_P t σ μ)[q]? = some (a, pq_E t σ μ a)) (h1 : pq_E t σ μ1 a = e) (h2 : ∀ b, b ≠ a → pq_E t σ μ1 b = pq_E t σ μ b) : (pq_P t σ μ).set q (a, e) = pq_P t σ μ1 := by
  have h3 := va_pl_set (X := []) (e := e) hD h hq
  refine h3.trans ?_
  show va_pl _ _ = va_pl _ _
  refine va_pl_congr (fun b => ?_)
  by_cases hb : b = a
  · subst hb
    rw [va_up_self, h1]
  · rw [va_up_ne _ _ hb, h2 b hb]
theorem pq_flI {R : Nat → Nat → Option Nat} {I : Nat → Nat → Int32} {J : Nat → Nat → Int64} {k a b f : Nat} {v : Int32} (h : b ≠ a) : pq_fl R (pq_u I f a v) J k b = pq_fl R I J k b := by
  unfold pq_fl
  split <;> simp only [pq_ua _ _ _ _ h]
theorem pq_flJ {R : Nat → Nat → Option Nat} {I : Nat → Nat → Int32} {J : Nat → Nat → Int64} {k a b f : Nat} {v : Int64} (h : b ≠ a) : pq_fl R I (pq_u J f a v) k b = pq_fl R I J k b := by
  unfold pq_fl
  split <;> simp only [pq_ua _ _ _ _ h]
theorem pq_EI {t : pq_T} {σ : pq_S} {I : Nat → Nat → Int32} {J : Nat → Nat → Int64} {r : (Nat → Nat → Int32) × (Nat → Nat → Int64) × (Nat → Nat → Option Nat)} {a b f : Nat} {v : Int32} (h : b ≠ a) : pq_E t σ (pq_u I f a v, J, r) b = pq_E t σ (I, J, r) b := by
  unfold pq_E
  split <;> simp only [pq_flI h]
theorem pq_EJ {t : pq_T} {σ : pq_S} {I : Nat → Nat → Int32} {J : Nat → Nat → Int64} {r : (Nat → Nat → Int32) × (Nat → Nat → Int64) × (Nat → Nat → Option Nat)} {a b f : Nat} {v : Int64} (h : b ≠ a) : pq_E t σ (I, pq_u J f a v, r) b = pq_E t σ (I, J, r) b := by
  unfold pq_E
  split <;> simp only [pq_flJ h]
theorem pq_Ea {t : pq_T} {σ : pq_S} {I : Nat → Nat → Int32} {J : Nat → Nat → Int64} {ri : Nat → Nat → Int32} {r : (Nat → Nat → Int64) × (Nat → Nat → Option Nat)} {a b : Nat} {v : Nat → Int32} (h : b ≠ a) : pq_E t σ (I, J, va_up ri a v, r) b = pq_E t σ (I, J, ri, r) b := by
  unfold pq_E
  split <;> simp only [va_up_ne _ _ h]
theorem pq_Eb {t : pq_T} {σ : pq_S} {I : Nat → Nat → Int32} {J : Nat → Nat → Int64} {ri : Nat → Nat → Int32} {rj : Nat → Nat → Int64} {rq : Nat → Nat → Option Nat} {a b : Nat} {v : Nat → Int64} (h : b ≠ a) : pq_E t σ (I, J, ri, va_up rj a v, rq) b = pq_E t σ (I, J, ri, rj, rq) b := by
  unfold pq_E
  split <;> simp only [va_up_ne _ _ h]

theorem ps_0 (R : Nat → Nat → Option Nat) (I : Nat → Nat → Int32) (J : Nat → Nat → Int64) (a : Nat) (v : Int32) : pq_fl R (pq_u I 0 a v) J 0 a = (pq_fl R I J 0 a).set 0 (.int v) := by simp [pq_fl, pq_u, va_up]
theorem ps_10 (R : Nat → Nat → Option Nat) (I : Nat → Nat → Int32) (J : Nat → Nat → Int64) (a : Nat) (v : Int32) : pq_fl R (pq_u I 10 a v) J 0 a = (pq_fl R I J 0 a).set 10 (.int v) := by simp [pq_fl, pq_u, va_up]
theorem ps_32 (R : Nat → Nat → Option Nat) (I : Nat → Nat → Int32) (J : Nat → Nat → Int64) (a : Nat) (v : Int32) : pq_fl R (pq_u I 32 a v) J 1 a = (pq_fl R I J 1 a).set 0 (.int v) := by simp [pq_fl, pq_u, va_up]
theorem ps_64 (R : Nat → Nat → Option Nat) (I : Nat → Nat → Int32) (J : Nat → Nat → Int64) (a : Nat) (v : Int32) : pq_fl R (pq_u I 64 a v) J 2 a = (pq_fl R I J 2 a).set 0 (.int v) := by simp [pq_fl, pq_u, va_up]
theorem ps_65 (R : Nat → Nat → Option Nat) (I : Nat → Nat → Int32) (J : Nat → Nat → Int64) (a : Nat) (v : Int32) : pq_fl R (pq_u I 65 a v) J 2 a = (pq_fl R I J 2 a).set 1 (.int v) := by simp [pq_fl, pq_u, va_up]
theorem ps_66 (R : Nat → Nat → Option Nat) (I : Nat → Nat → Int32) (J : Nat → Nat → Int64) (a : Nat) (v : Int32) : pq_fl R (pq_u I 66 a v) J 2 a = (pq_fl R I J 2 a).set 2 (.int v) := by simp [pq_fl, pq_u, va_up]
theorem ps_67 (R : Nat → Nat → Option Nat) (I : Nat → Nat → Int32) (J : Nat → Nat → Int64) (a : Nat) (v : Int64) : pq_fl R I (pq_u J 67 a v) 2 a = (pq_fl R I J 2 a).set 3 (.long v) := by simp [pq_fl, pq_u, va_up]
theorem ps_96 (R : Nat → Nat → Option Nat) (I : Nat → Nat → Int32) (J : Nat → Nat → Int64) (a : Nat) (v : Int32) : pq_fl R (pq_u I 96 a v) J 3 a = (pq_fl R I J 3 a).set 0 (.int v) := by simp [pq_fl, pq_u, va_up]
theorem ps_98 (R : Nat → Nat → Option Nat) (I : Nat → Nat → Int32) (J : Nat → Nat → Int64) (a : Nat) (v : Int32) : pq_fl R (pq_u I 98 a v) J 3 a = (pq_fl R I J 3 a).set 2 (.int v) := by simp [pq_fl, pq_u, va_up]
theorem ps_129 (R : Nat → Nat → Option Nat) (I : Nat → Nat → Int32) (J : Nat → Nat → Int64) (a : Nat) (v : Int32) : pq_fl R (pq_u I 129 a v) J 4 a = (pq_fl R I J 4 a).set 1 (.int v) := by simp [pq_fl, pq_u, va_up]
theorem ps_130 (R : Nat → Nat → Option Nat) (I : Nat → Nat → Int32) (J : Nat → Nat → Int64) (a : Nat) (v : Int32) : pq_fl R (pq_u I 130 a v) J 4 a = (pq_fl R I J 4 a).set 2 (.int v) := by simp [pq_fl, pq_u, va_up]
theorem ps_132 (R : Nat → Nat → Option Nat) (I : Nat → Nat → Int32) (J : Nat → Nat → Int64) (a : Nat) (v : Int32) : pq_fl R (pq_u I 132 a v) J 4 a = (pq_fl R I J 4 a).set 4 (.int v) := by simp [pq_fl, pq_u, va_up]
theorem ps_134 (R : Nat → Nat → Option Nat) (I : Nat → Nat → Int32) (J : Nat → Nat → Int64) (a : Nat) (v : Int32) : pq_fl R (pq_u I 134 a v) J 4 a = (pq_fl R I J 4 a).set 6 (.int v) := by simp [pq_fl, pq_u, va_up]
theorem ps_135 (R : Nat → Nat → Option Nat) (I : Nat → Nat → Int32) (J : Nat → Nat → Int64) (a : Nat) (v : Int32) : pq_fl R (pq_u I 135 a v) J 4 a = (pq_fl R I J 4 a).set 7 (.int v) := by simp [pq_fl, pq_u, va_up]
theorem ps_136 (R : Nat → Nat → Option Nat) (I : Nat → Nat → Int32) (J : Nat → Nat → Int64) (a : Nat) (v : Int32) : pq_fl R (pq_u I 136 a v) J 4 a = (pq_fl R I J 4 a).set 8 (.int v) := by simp [pq_fl, pq_u, va_up]
theorem ps_137 (R : Nat → Nat → Option Nat) (I : Nat → Nat → Int32) (J : Nat → Nat → Int64) (a : Nat) (v : Int32) : pq_fl R (pq_u I 137 a v) J 4 a = (pq_fl R I J 4 a).set 9 (.int v) := by simp [pq_fl, pq_u, va_up]
theorem ps_138 (R : Nat → Nat → Option Nat) (I : Nat → Nat → Int32) (J : Nat → Nat → Int64) (a : Nat) (v : Int32) : pq_fl R (pq_u I 138 a v) J 4 a = (pq_fl R I J 4 a).set 10 (.int v) := by simp [pq_fl, pq_u, va_up]
theorem ps_139 (R : Nat → Nat → Option Nat) (I : Nat → Nat → Int32) (J : Nat → Nat → Int64) (a : Nat) (v : Int32) : pq_fl R (pq_u I 139 a v) J 4 a = (pq_fl R I J 4 a).set 11 (.int v) := by simp [pq_fl, pq_u, va_up]
theorem ps_160 (R : Nat → Nat → Option Nat) (I : Nat → Nat → Int32) (J : Nat → Nat → Int64) (a : Nat) (v : Int32) : pq_fl R (pq_u I 160 a v) J 5 a = (pq_fl R I J 5 a).set 0 (.int v) := by simp [pq_fl, pq_u, va_up]
theorem ps_164 (R : Nat → Nat → Option Nat) (I : Nat → Nat → Int32) (J : Nat → Nat → Int64) (a : Nat) (v : Int32) : pq_fl R (pq_u I 164 a v) J 5 a = (pq_fl R I J 5 a).set 4 (.int v) := by simp [pq_fl, pq_u, va_up]
theorem ps_193 (R : Nat → Nat → Option Nat) (I : Nat → Nat → Int32) (J : Nat → Nat → Int64) (a : Nat) (v : Int32) : pq_fl R (pq_u I 193 a v) J 6 a = (pq_fl R I J 6 a).set 1 (.int v) := by simp [pq_fl, pq_u, va_up]
theorem ps_194 (R : Nat → Nat → Option Nat) (I : Nat → Nat → Int32) (J : Nat → Nat → Int64) (a : Nat) (v : Int32) : pq_fl R (pq_u I 194 a v) J 6 a = (pq_fl R I J 6 a).set 2 (.int v) := by simp [pq_fl, pq_u, va_up]
theorem ps_195 (R : Nat → Nat → Option Nat) (I : Nat → Nat → Int32) (J : Nat → Nat → Int64) (a : Nat) (v : Int32) : pq_fl R (pq_u I 195 a v) J 6 a = (pq_fl R I J 6 a).set 3 (.int v) := by simp [pq_fl, pq_u, va_up]
theorem ps_196 (R : Nat → Nat → Option Nat) (I : Nat → Nat → Int32) (J : Nat → Nat → Int64) (a : Nat) (v : Int32) : pq_fl R (pq_u I 196 a v) J 6 a = (pq_fl R I J 6 a).set 4 (.int v) := by simp [pq_fl, pq_u, va_up]
theorem ps_197 (R : Nat → Nat → Option Nat) (I : Nat → Nat → Int32) (J : Nat → Nat → Int64) (a : Nat) (v : Int32) : pq_fl R (pq_u I 197 a v) J 6 a = (pq_fl R I J 6 a).set 5 (.int v) := by simp [pq_fl, pq_u, va_up]
theorem ps_224 (R : Nat → Nat → Option Nat) (I : Nat → Nat → Int32) (J : Nat → Nat → Int64) (a : Nat) (v : Int32) : pq_fl R (pq_u I 224 a v) J 7 a = (pq_fl R I J 7 a).set 0 (.int v) := by simp [pq_fl, pq_u, va_up]
theorem ps_234 (R : Nat → Nat → Option Nat) (I : Nat → Nat → Int32) (J : Nat → Nat → Int64) (a : Nat) (v : Int32) : pq_fl R (pq_u I 234 a v) J 7 a = (pq_fl R I J 7 a).set 10 (.int v) := by simp [pq_fl, pq_u, va_up]
theorem ps_235 (R : Nat → Nat → Option Nat) (I : Nat → Nat → Int32) (J : Nat → Nat → Int64) (a : Nat) (v : Int32) : pq_fl R (pq_u I 235 a v) J 7 a = (pq_fl R I J 7 a).set 11 (.int v) := by simp [pq_fl, pq_u, va_up]
theorem ps_236 (R : Nat → Nat → Option Nat) (I : Nat → Nat → Int32) (J : Nat → Nat → Int64) (a : Nat) (v : Int32) : pq_fl R (pq_u I 236 a v) J 7 a = (pq_fl R I J 7 a).set 12 (.int v) := by simp [pq_fl, pq_u, va_up]
theorem ps_237 (R : Nat → Nat → Option Nat) (I : Nat → Nat → Int32) (J : Nat → Nat → Int64) (a : Nat) (v : Int32) : pq_fl R (pq_u I 237 a v) J 7 a = (pq_fl R I J 7 a).set 13 (.int v) := by simp [pq_fl, pq_u, va_up]
theorem ps_238 (R : Nat → Nat → Option Nat) (I : Nat → Nat → Int32) (J : Nat → Nat → Int64) (a : Nat) (v : Int32) : pq_fl R (pq_u I 238 a v) J 7 a = (pq_fl R I J 7 a).set 14 (.int v) := by simp [pq_fl, pq_u, va_up]
theorem ps_256 (R : Nat → Nat → Option Nat) (I : Nat → Nat → Int32) (J : Nat → Nat → Int64) (a : Nat) (v : Int32) : pq_fl R (pq_u I 256 a v) J 8 a = (pq_fl R I J 8 a).set 0 (.int v) := by simp [pq_fl, pq_u, va_up]
theorem ps_320 (R : Nat → Nat → Option Nat) (I : Nat → Nat → Int32) (J : Nat → Nat → Int64) (a : Nat) (v : Int32) : pq_fl R (pq_u I 320 a v) J 10 a = (pq_fl R I J 10 a).set 0 (.int v) := by simp [pq_fl, pq_u, va_up]
theorem ps_321 (R : Nat → Nat → Option Nat) (I : Nat → Nat → Int32) (J : Nat → Nat → Int64) (a : Nat) (v : Int32) : pq_fl R (pq_u I 321 a v) J 10 a = (pq_fl R I J 10 a).set 1 (.int v) := by simp [pq_fl, pq_u, va_up]
theorem ps_322 (R : Nat → Nat → Option Nat) (I : Nat → Nat → Int32) (J : Nat → Nat → Int64) (a : Nat) (v : Int32) : pq_fl R (pq_u I 322 a v) J 10 a = (pq_fl R I J 10 a).set 2 (.int v) := by simp [pq_fl, pq_u, va_up]
theorem ps_323 (R : Nat → Nat → Option Nat) (I : Nat → Nat → Int32) (J : Nat → Nat → Int64) (a : Nat) (v : Int32) : pq_fl R (pq_u I 323 a v) J 10 a = (pq_fl R I J 10 a).set 3 (.int v) := by simp [pq_fl, pq_u, va_up]
theorem ps_324 (R : Nat → Nat → Option Nat) (I : Nat → Nat → Int32) (J : Nat → Nat → Int64) (a : Nat) (v : Int32) : pq_fl R (pq_u I 324 a v) J 10 a = (pq_fl R I J 10 a).set 4 (.int v) := by simp [pq_fl, pq_u, va_up]
theorem ps_388 (R : Nat → Nat → Option Nat) (I : Nat → Nat → Int32) (J : Nat → Nat → Int64) (a : Nat) (v : Int32) : pq_fl R (pq_u I 388 a v) J 12 a = (pq_fl R I J 12 a).set 4 (.int v) := by simp [pq_fl, pq_u, va_up]
theorem ps_389 (R : Nat → Nat → Option Nat) (I : Nat → Nat → Int32) (J : Nat → Nat → Int64) (a : Nat) (v : Int32) : pq_fl R (pq_u I 389 a v) J 12 a = (pq_fl R I J 12 a).set 5 (.int v) := by simp [pq_fl, pq_u, va_up]
theorem ps_390 (R : Nat → Nat → Option Nat) (I : Nat → Nat → Int32) (J : Nat → Nat → Int64) (a : Nat) (v : Int32) : pq_fl R (pq_u I 390 a v) J 12 a = (pq_fl R I J 12 a).set 6 (.int v) := by simp [pq_fl, pq_u, va_up]
theorem ps_391 (R : Nat → Nat → Option Nat) (I : Nat → Nat → Int32) (J : Nat → Nat → Int64) (a : Nat) (v : Int32) : pq_fl R (pq_u I 391 a v) J 12 a = (pq_fl R I J 12 a).set 7 (.int v) := by simp [pq_fl, pq_u, va_up]
theorem ps_392 (R : Nat → Nat → Option Nat) (I : Nat → Nat → Int32) (J : Nat → Nat → Int64) (a : Nat) (v : Int32) : pq_fl R (pq_u I 392 a v) J 12 a = (pq_fl R I J 12 a).set 8 (.int v) := by simp [pq_fl, pq_u, va_up]
theorem ps_393 (R : Nat → Nat → Option Nat) (I : Nat → Nat → Int32) (J : Nat → Nat → Int64) (a : Nat) (v : Int32) : pq_fl R (pq_u I 393 a v) J 12 a = (pq_fl R I J 12 a).set 9 (.int v) := by simp [pq_fl, pq_u, va_up]
theorem ps_394 (R : Nat → Nat → Option Nat) (I : Nat → Nat → Int32) (J : Nat → Nat → Int64) (a : Nat) (v : Int32) : pq_fl R (pq_u I 394 a v) J 12 a = (pq_fl R I J 12 a).set 10 (.int v) := by simp [pq_fl, pq_u, va_up]
theorem ps_395 (R : Nat → Nat → Option Nat) (I : Nat → Nat → Int32) (J : Nat → Nat → Int64) (a : Nat) (v : Int64) : pq_fl R I (pq_u J 395 a v) 12 a = (pq_fl R I J 12 a).set 11 (.long v) := by simp [pq_fl, pq_u, va_up]
theorem ps_396 (R : Nat → Nat → Option Nat) (I : Nat → Nat → Int32) (J : Nat → Nat → Int64) (a : Nat) (v : Int32) : pq_fl R (pq_u I 396 a v) J 12 a = (pq_fl R I J 12 a).set 12 (.int v) := by simp [pq_fl, pq_u, va_up]
theorem ps_397 (R : Nat → Nat → Option Nat) (I : Nat → Nat → Int32) (J : Nat → Nat → Int64) (a : Nat) (v : Int32) : pq_fl R (pq_u I 397 a v) J 12 a = (pq_fl R I J 12 a).set 13 (.int v) := by simp [pq_fl, pq_u, va_up]
theorem ps_398 (R : Nat → Nat → Option Nat) (I : Nat → Nat → Int32) (J : Nat → Nat → Int64) (a : Nat) (v : Int32) : pq_fl R (pq_u I 398 a v) J 12 a = (pq_fl R I J 12 a).set 14 (.int v) := by simp [pq_fl, pq_u, va_up]
theorem ps_399 (R : Nat → Nat → Option Nat) (I : Nat → Nat → Int32) (J : Nat → Nat → Int64) (a : Nat) (v : Int32) : pq_fl R (pq_u I 399 a v) J 12 a = (pq_fl R I J 12 a).set 15 (.int v) := by simp [pq_fl, pq_u, va_up]
theorem ps_401 (R : Nat → Nat → Option Nat) (I : Nat → Nat → Int32) (J : Nat → Nat → Int64) (a : Nat) (v : Int32) : pq_fl R (pq_u I 401 a v) J 12 a = (pq_fl R I J 12 a).set 17 (.int v) := by simp [pq_fl, pq_u, va_up]
theorem ps_402 (R : Nat → Nat → Option Nat) (I : Nat → Nat → Int32) (J : Nat → Nat → Int64) (a : Nat) (v : Int32) : pq_fl R (pq_u I 402 a v) J 12 a = (pq_fl R I J 12 a).set 18 (.int v) := by simp [pq_fl, pq_u, va_up]
theorem ps_403 (R : Nat → Nat → Option Nat) (I : Nat → Nat → Int32) (J : Nat → Nat → Int64) (a : Nat) (v : Int32) : pq_fl R (pq_u I 403 a v) J 12 a = (pq_fl R I J 12 a).set 19 (.int v) := by simp [pq_fl, pq_u, va_up]
theorem ps_406 (R : Nat → Nat → Option Nat) (I : Nat → Nat → Int32) (J : Nat → Nat → Int64) (a : Nat) (v : Int32) : pq_fl R (pq_u I 406 a v) J 12 a = (pq_fl R I J 12 a).set 22 (.int v) := by simp [pq_fl, pq_u, va_up]
theorem ps_407 (R : Nat → Nat → Option Nat) (I : Nat → Nat → Int32) (J : Nat → Nat → Int64) (a : Nat) (v : Int32) : pq_fl R (pq_u I 407 a v) J 12 a = (pq_fl R I J 12 a).set 23 (.int v) := by simp [pq_fl, pq_u, va_up]
theorem ps_410 (R : Nat → Nat → Option Nat) (I : Nat → Nat → Int32) (J : Nat → Nat → Int64) (a : Nat) (v : Int32) : pq_fl R (pq_u I 410 a v) J 12 a = (pq_fl R I J 12 a).set 26 (.int v) := by simp [pq_fl, pq_u, va_up]
def pq_nl : List (String × Nat × MethodName) := [(RX7, 55, yX11_fill), (RX2, 45, yX9_init), (RX2, 65, yX11_fill), (RX10, 38, yX0_init), (RX10, 45, yX3_init), (RX10, 52, yX1_init), (RX10, 63, yX11_fill), (RX11, 24, yX5_init), (RX11, 31, yX4_init), (RX4, 11, yX6_init), (RX4, 27, yX8_init), (RX2, 101, yX11_hasBit), (RX3, 65, yX11_hasBit), (RX0, 73, yX11_hasBit), (RX9, 29, yX11_hasBit), (RX0, 58, yX11_copy), (RX0, 113, yX11_fill), (RX10, 76, yX11_copy), (RX7, 62, yX11_copy), (RX2, 89, yX11_copy), (RX9, 21, yX11_copy), (RX3, 40, yX11_copy), (RX1, 23, yX11_copy), (RX5, 60, yX11_copy), (RX10, 226, yX11_hasBit), (RX1, 33, yX11_hasBit)]
/-! ===== rows over the pool ===== -/
section PQ
variable {p : Program} {l : Launch} {e : Env} {R : Room} {s : State} {m : MethodId} {args : Array Value} {below : List Frame} {meth : Method} {c : Code} {H : Heap} {locs : List Loc} {cells slots : Nat} {Q : State → Prop}
variable {cc : ByteArray} {pc : Nat} {ls : Array Slot} {rest : List Value} {D : va_G} {A : Nat → Prop} {a : Nat} {t : pq_T} {σ : pq_S} {H0 : Heap}
variable {I : Nat → Nat → Int32} {J : Nat → Nat → Int64} {ri : Nat → Nat → Int32} {rj : Nat → Nat → Int64} {rq : Nat → Nat → Option Nat}
theorem lv_tov {x : Int32} (v : Int32) (h : x = v) (k : W p l e R s m args below meth c H locs cells slots Q (F0 m pc ls (.int v :: rest))) : W p l e R s m args below meth c H locs cells slots Q (F0 m pc ls (.int x :: rest)) := h ▸ k
/-- getfield -/
theorem pg_f (hx : p.tables.exec = Jvm.exec) (hb : c.code = cc) {own C : String} {T : u_T} {N k index : Nat} {Ts : List Cond} {μ : pq_M} (hts : ∀ w ∈ Ts, w.before args s = true) (hin : ∀ w ∈ u_ws C T N, w ∈ Ts) (hown : s.vm.findClass own = some m.cls) (hK : va_K D vwCl (pq_ty t) s) (hP : va_P D vwCl (pq_P t σ μ) H) (hL : a ∈ σ.1) (hk : σ.2.1 a = k) (h13 : k < 13) (hc : vwCl[k]? = some (C, T, N)) (j : Nat) (hj : j < N) (hlink : (Cond.fieldLink own index (T j).1 (T j).2.1 (T j).2.2.1).before args s = true) {v : Value} (hv : (pq_fl σ.2.2.1 μ.1 μ.2.1 k a)[j]? = some v) (hdg : decode cc pc = .ok (.getfield index, 3))
    (kk : W p l e R s m args below meth c H locs cells slots Q (F0 m (pc + 3) ls (v :: rest))) : W p l e R s m args below meth c H locs cells slots Q (F0 m pc ls (.ref a :: rest)) := by
  obtain ⟨q, hq⟩ := pq_in (t := t) (μ := μ) hL
  rw [pq_o h13 hk] at hq
  have hsame : ∀ x, s.fieldFound? (T j).1 (T j).2.1 (T j).2.2.1 = some x → s.fieldFound? (T j).1 (T j).2.1 (T j).2.2.1 = some x := fun _ h => h
  exact va_get hx hb hts hin hown hK hP q hq hc j hj hlink hsame hv hdg kk
theorem pq_hv {L : List Value} {j b : Nat} {o : Option Nat} (h1 : L[j]? = some (va_rf o)) (h2 : o = some b) : L[j]? = some (.ref b) := by rw [h1, h2]; rfl
/-- putfield of an int (or a boolean) -/
theorem pp_i (hx : p.tables.exec = Jvm.exec) (hb : c.code = cc) {own C : String} {T : u_T} {N k index : Nat} {Ts : List Cond} (hts : ∀ w ∈ Ts, w.before args s = true) (hin : ∀ w ∈ u_ws C T N, w ∈ Ts) (ty0 : Nat → FieldType) (hty : ∀ k, k < N → parseFieldDescriptor (T k).2.2.1 = some (ty0 k)) (hnm : ∀ a, a < N → ∀ b, b < N → a ≠ b → (T a).2.1 ≠ (T b).2.1) (hown : s.vm.findClass own = some m.cls) (hK : va_K D vwCl (pq_ty t) s) (hP : va_P D vwCl (pq_P t σ (I, J, ri, rj, rq)) H) (hD : va_D A (pq_P t σ (I, J, ri, rj, rq))) (hS : va_S A H0 H locs) (hL : a ∈ σ.1) (hk : σ.2.1 a = k) (h13 : k < 13) (hc : vwCl[k]? = some (C, T, N)) (j f : Nat) (hj : j < N) (hlink : (Cond.fieldLink own index (T j).1 (T j).2.1 (T j).2.2.1).before args s = true) (hfin : (T j).2.2.2 = false) {ty : FieldType} {v : Int32} (hd : parseFieldDescriptor (T j).2.2.1 = some ty) (hn : narrow ty (.int v) = .int v) (hfit : fits ty (.int v) = true) (hl : j < (pq_fl σ.2.2.1 I J k a).length) (hset : pq_fl σ.2.2.1 (pq_u I f a v) J k a = (pq_fl σ.2.2.1 I J k a).set j (.int v)) (hdg : decode cc pc = .ok (.putfield index, 3))
    (kk : ∀ (I1 : Nat → Nat → Int32) (H1 : Heap) (locs1 : List Loc), I1 = pq_u I f a v → va_P D vwCl (pq_P t σ (I1, J, ri, rj, rq)) H1 → va_D A (pq_P t σ (I1, J, ri, rj, rq)) → va_S A H0 H1 locs1 → W p l e R s m args below meth c H1 locs1 cells slots Q (F0 m (pc + 3) ls rest)) : W p l e R s m args below meth c H locs cells slots Q (F0 m pc ls (.int v :: .ref a :: rest)) := by
  obtain ⟨q, hq⟩ := pq_in (t := t) (μ := (I, J, ri, rj, rq)) hL
  have hq2 := hq
  rw [pq_o h13 hk] at hq2
  have hsame : ∀ x, s.fieldFound? (T j).1 (T j).2.1 (T j).2.2.1 = some x → s.fieldFound? (T j).1 (T j).2.1 (T j).2.2.1 = some x := fun _ h => h
  have he : (pq_P t σ (I, J, ri, rj, rq)).set q (a, .inr (k, (pq_fl σ.2.2.1 I J k a).set j (.int v))) = pq_P t σ (pq_u I f a v, J, ri, rj, rq) := pq_set hD hL hq (by rw [pq_o h13 hk]; exact congrArg _ (congrArg _ hset)) (fun b hb => pq_EI hb)
  refine va_put hx hb hts hin ty0 hty hnm hown hK hP hD hS q hq2 hc j hj hlink hsame hfin hd hn hfit hl hdg (fun H1 locs1 hP1 hD1 hS1 => ?_)
  exact kk _ H1 locs1 rfl (he ▸ hP1) (he ▸ hD1) hS1
/-- putfield of a long -/
theorem pp_l (hx : p.tables.exec = Jvm.exec) (hb : c.code = cc) {own C : String} {T : u_T} {N k index : Nat} {Ts : List Cond} (hts : ∀ w ∈ Ts, w.before args s = true) (hin : ∀ w ∈ u_ws C T N, w ∈ Ts) (ty0 : Nat → FieldType) (hty : ∀ k, k < N → parseFieldDescriptor (T k).2.2.1 = some (ty0 k)) (hnm : ∀ a, a < N → ∀ b, b < N → a ≠ b → (T a).2.1 ≠ (T b).2.1) (hown : s.vm.findClass own = some m.cls) (hK : va_K D vwCl (pq_ty t) s) (hP : va_P D vwCl (pq_P t σ (I, J, ri, rj, rq)) H) (hD : va_D A (pq_P t σ (I, J, ri, rj, rq))) (hS : va_S A H0 H locs) (hL : a ∈ σ.1) (hk : σ.2.1 a = k) (h13 : k < 13) (hc : vwCl[k]? = some (C, T, N)) (j f : Nat) (hj : j < N) (hlink : (Cond.fieldLink own index (T j).1 (T j).2.1 (T j).2.2.1).before args s = true) (hfin : (T j).2.2.2 = false) {v : Int64} (hd : parseFieldDescriptor (T j).2.2.1 = some .long) (hl : j < (pq_fl σ.2.2.1 I J k a).length) (hset : pq_fl σ.2.2.1 I (pq_u J f a v) k a = (pq_fl σ.2.2.1 I J k a).set j (.long v)) (hdg : decode cc pc = .ok (.putfield index, 3))
    (kk : ∀ (J1 : Nat → Nat → Int64) (H1 : Heap) (locs1 : List Loc), J1 = pq_u J f a v → va_P D vwCl (pq_P t σ (I, J1, ri, rj, rq)) H1 → va_D A (pq_P t σ (I, J1, ri, rj, rq)) → va_S A H0 H1 locs1 → W p l e R s m args below meth c H1 locs1 cells slots Q (F0 m (pc + 3) ls rest)) : W p l e R s m args below meth c H locs cells slots Q (F0 m pc ls (.long v :: .ref a :: rest)) := by
  obtain ⟨q, hq⟩ := pq_in (t := t) (μ := (I, J, ri, rj, rq)) hL
  have hq2 := hq
  rw [pq_o h13 hk] at hq2
  have hsame : ∀ x, s.fieldFound? (T j).1 (T j).2.1 (T j).2.2.1 = some x → s.fieldFound? (T j).1 (T j).2.1 (T j).2.2.1 = some x := fun _ h => h
  have he : (pq_P t σ (I, J, ri, rj, rq)).set q (a, .inr (k, (pq_fl σ.2.2.1 I J k a).set j (.long v))) = pq_P t σ (I, pq_u J f a v, ri, rj, rq) := pq_set hD hL hq (by rw [pq_o h13 hk]; exact congrArg _ (congrArg _ hset)) (fun b hb => pq_EJ hb)
  refine va_put hx hb hts hin ty0 hty hnm hown hK hP hD hS q hq2 hc j hj hlink hsame hfin hd rfl rfl hl hdg (fun H1 locs1 hP1 hD1 hS1 => ?_)
  exact kk _ H1 locs1 rfl (he ▸ hP1) (he ▸ hD1) hS1
/-- arrays of int -/
theorem pl_i (hx : p.tables.exec = Jvm.exec) (hb : c.code = cc) {μ : pq_M} (hK : va_K D vwCl (pq_ty t) s) (hP : va_P D vwCl (pq_P t σ μ) H) (hL : a ∈ σ.1) (hk : σ.2.1 a = 13) {n : Nat} (hn : σ.2.2.2 a = n) {i : Int32} (hin : vp_in i n) (hdg : decode cc pc = .ok (.iaload, 1))
    (kk : W p l e R s m args below meth c H locs cells slots Q (F0 m (pc + 1) ls (.int (μ.2.2.1 a i.toNatClampNeg) :: rest))) : W p l e R s m args below meth c H locs cells slots Q (F0 m pc ls (.int i :: .ref a :: rest)) := by
  subst hn
  obtain ⟨q, hq⟩ := pq_in (t := t) (μ := μ) hL
  rw [pq_oI hk] at hq
  exact va_iald hx hb hK hP q 0 hq rfl hin hdg kk
theorem pl_l (hx : p.tables.exec = Jvm.exec) (hb : c.code = cc) {μ : pq_M} (hK : va_K D vwCl (pq_ty t) s) (hP : va_P D vwCl (pq_P t σ μ) H) (hL : a ∈ σ.1) (hk : σ.2.1 a = 14) {n : Nat} (hn : σ.2.2.2 a = n) {i : Int32} (hin : vp_in i n) (hdg : decode cc pc = .ok (.laload, 1))
    (kk : W p l e R s m args below meth c H locs cells slots Q (F0 m (pc + 1) ls (.long (μ.2.2.2.1 a i.toNatClampNeg) :: rest))) : W p l e R s m args below meth c H locs cells slots Q (F0 m pc ls (.int i :: .ref a :: rest)) := by
  subst hn
  obtain ⟨q, hq⟩ := pq_in (t := t) (μ := μ) hL
  rw [pq_oJ hk] at hq
  exact va_lald hx hb hK hP q 1 hq rfl hin hdg kk
theorem pn_i (hx : p.tables.exec = Jvm.exec) (hb : c.code = cc) {μ : pq_M} (hK : va_K D vwCl (pq_ty t) s) (hP : va_P D vwCl (pq_P t σ μ) H) (hL : a ∈ σ.1) (hk : σ.2.1 a = 13) {n : Nat} (hn : σ.2.2.2 a = n) {v : Int32} (hv : Int32.ofNat n = v) (hdg : decode cc pc = .ok (.arraylength, 1))
    (kk : W p l e R s m args below meth c H locs cells slots Q (F0 m (pc + 1) ls (.int v :: rest))) : W p l e R s m args below meth c H locs cells slots Q (F0 m pc ls (.ref a :: rest)) := by
  subst hn
  obtain ⟨q, hq⟩ := pq_in (t := t) (μ := μ) hL
  rw [pq_oI hk] at hq
  exact va_alen hx hb hK hP q 0 hq (ty := .int) rfl hv hdg kk
theorem pt_i (hx : p.tables.exec = Jvm.exec) (hb : c.code = cc) (hK : va_K D vwCl (pq_ty t) s) (hP : va_P D vwCl (pq_P t σ (I, J, ri, rj, rq)) H) (hD : va_D A (pq_P t σ (I, J, ri, rj, rq))) (hS : va_S A H0 H locs) (hL : a ∈ σ.1) (hk : σ.2.1 a = 13) {n : Nat} (hn : σ.2.2.2 a = n) {i x : Int32} (hin : vp_in i n) (hdg : decode cc pc = .ok (.iastore, 1))
    (kk : ∀ (r1 : Nat → Nat → Int32) (H1 : Heap) (locs1 : List Loc), r1 = va_up ri a (upd (ri a) i.toNatClampNeg x) → va_P D vwCl (pq_P t σ (I, J, r1, rj, rq)) H1 → va_D A (pq_P t σ (I, J, r1, rj, rq)) → va_S A H0 H1 locs1 → W p l e R s m args below meth c H1 locs1 cells slots Q (F0 m (pc + 1) ls rest)) : W p l e R s m args below meth c H locs cells slots Q (F0 m pc ls (.int x :: .int i :: .ref a :: rest)) := by
  subst hn
  obtain ⟨q, hq⟩ := pq_in (t := t) (μ := (I, J, ri, rj, rq)) hL
  have hq2 := hq
  rw [pq_oI hk] at hq2
  have he : (pq_P t σ (I, J, ri, rj, rq)).set q (a, .inl (t.1, σ.2.2.2 a, .inl (upd (ri a) i.toNatClampNeg x))) = pq_P t σ (I, J, va_up ri a (upd (ri a) i.toNatClampNeg x), rj, rq) := pq_set hD hL hq (by rw [pq_oI hk]; simp only [va_up_self]) (fun b hb => pq_Ea hb)
  refine va_iast hx hb hK hP hD hS q 0 hq2 rfl hin hdg (fun H1 locs1 hP1 hD1 hS1 => ?_)
  exact kk _ H1 locs1 rfl (he ▸ hP1) (he ▸ hD1) hS1
theorem pt_l (hx : p.tables.exec = Jvm.exec) (hb : c.code = cc) (hK : va_K D vwCl (pq_ty t) s) (hP : va_P D vwCl (pq_P t σ (I, J, ri, rj, rq)) H) (hD : va_D A (pq_P t σ (I, J, ri, rj, rq))) (hS : va_S A H0 H locs) (hL : a ∈ σ.1) (hk : σ.2.1 a = 14) {n : Nat} (hn : σ.2.2.2 a = n) {i : Int32} {x : Int64} (hin : vp_in i n) (hdg : decode cc pc = .ok (.lastore, 1))
    (kk : ∀ (r1 : Nat → Nat → Int64) (H1 : Heap) (locs1 : List Loc), r1 = va_up rj a (vp_updL (rj a) i.toNatClampNeg x) → va_P D vwCl (pq_P t σ (I, J, ri, r1, rq)) H1 → va_D A (pq_P t σ (I, J, ri, r1, rq)) → va_S A H0 H1 locs1 → W p l e R s m args below meth c H1 locs1 cells slots Q (F0 m (pc + 1) ls rest)) : W p l e R s m args below meth c H locs cells slots Q (F0 m pc ls (.long x :: .int i :: .ref a :: rest)) := by
  subst hn
  obtain ⟨q, hq⟩ := pq_in (t := t) (μ := (I, J, ri, rj, rq)) hL
  have hq2 := hq
  rw [pq_oJ hk] at hq2
  have he : (pq_P t σ (I, J, ri, rj, rq)).set q (a, .inl (t.2.1, σ.2.2.2 a, .inr (.inl (vp_updL (rj a) i.toNatClampNeg x)))) = pq_P t σ (I, J, ri, va_up rj a (vp_updL (rj a) i.toNatClampNeg x), rq) := pq_set hD hL hq (by rw [pq_oJ hk]; simp only [va_up_self]) (fun b hb => pq_Eb hb)
  refine va_last hx hb hK hP hD hS q 1 hq2 rfl hin hdg (fun H1 locs1 hP1 hD1 hS1 => ?_)
  exact kk _ H1 locs1 rfl (he ▸ hP1) (he ▸ hD1) hS1
end PQ
/-! contracts over the pool -/
def pq_N (U : State) : Prop := (∀ x ∈ pq_nl, va_Nw (.methodLinkNest x.1 x.2.1 x.2.2 "RingsUnder") U) ∧ va_AO "RingsUnder$Text" U
theorem pq_N.warm {s U : State} (hW : s.WarmedH U.vm) (h : pq_N s) : pq_N U := ⟨fun x hx => va_Nw.warmM hW (h.1 x hx), va_AO.moved hW.alike h.2⟩
theorem pq_N.same {u U : State} (hv : u.vm = U.vm) (h : pq_N u) : pq_N U := ⟨fun x hx => va_Nw.same rfl hv (h.1 x hx), va_AO.moved (by rw [hv]; exact Vm.Alike.refl _) h.2⟩
def pq_In (D : va_G) (t : pq_T) (σ : pq_S) (μ : pq_M) (sz : Nat) (U : State) : Prop := U.heap.size = sz ∧ va_P D vwCl (pq_P t σ μ) U.heap ∧ va_K D vwCl (pq_ty t) U ∧ va_D (fun _ => True) (pq_P t σ μ) ∧ pq_N U
def pq_Ou (D : va_G) (t : pq_T) (A : Nat → Prop) (u : pq_S × pq_M) (U : State) : Prop := va_P D vwCl (pq_P t u.1 u.2) U.heap ∧ va_K D vwCl (pq_ty t) U ∧ va_D A (pq_P t u.1 u.2)
theorem pq_blind {D : va_G} {t : pq_T} {σ : pq_S} {μ : pq_M} {sz : Nat} {As : List Value} : FrameBlind (va_Pc As (pq_In D t σ μ sz)) := fun a U g mk q => by
  obtain ⟨q0, q1, qP, qK, qD, qN⟩ := q
  exact ⟨q0, q1, qP, va_K.moved (u := U) (U := U.calling g mk a) (Vm.Alike.refl U.vm) qK, qD, qN.same rfl⟩
theorem pq_pre {D : va_G} {t : pq_T} {σ : pq_S} {μ : pq_M} {A : Nat → Prop} {s : State} {H : Heap} {As : List Value} (hK : va_K D vwCl (pq_ty t) s) (hN : pq_N s) (hP : va_P D vwCl (pq_P t σ μ) H) (hD : va_D A (pq_P t σ μ)) : ∀ U : State, U.heap = H → s.WarmedH U.vm → va_Pc As (pq_In D t σ μ H.size) As.toArray U := fun U hU hW => ⟨rfl, by rw [hU], by rw [hU]; exact hP, va_K.moved hW.alike hK, hD.weaken (fun _ _ _ _ => trivial), hN.warm hW⟩
theorem pq_recv {D : va_G} {t : pq_T} {σ : pq_S} {μ : pq_M} {s : State} {H : Heap} {b k : Nat} {r : vw_C} (hK : va_K D vwCl (pq_ty t) s) (hP : va_P D vwCl (pq_P t σ μ) H) (hL : b ∈ σ.1) (hk : σ.2.1 b = k) (h13 : k < 13) (hc : vwCl[k]? = some r) : ∃ cellB : Cell, H[b]? = some cellB ∧ cellB.vm.isStatics = false ∧ s.vm.findClass r.1 = some cellB.cls := by
  obtain ⟨q, hq⟩ := pq_in (t := t) (μ := μ) hL
  rw [pq_o h13 hk] at hq
  exact va_recv hK hP hc hq
theorem pq_A {D : va_G} {t : pq_T} {σ : pq_S} {μ : pq_M} {A : Nat → Prop} {H0 H : Heap} {locs : List Loc} (hD : va_D A (pq_P t σ μ)) (hS : va_S A H0 H locs) (hA : ∀ q, H0.size ≤ q → A q) : ∀ q, va_A (pq_P t σ μ) H.size q → A q := fun q h => by
  rcases h with ⟨k, e, h⟩ | h
  · exact hD.2 k (q, e) h
  · exact hA q (Nat.le_trans hS.1 h)
abbrev pq_B (t : pq_T) (σ : pq_S) (μ : pq_M) (sz : Nat) : Nat → Prop := va_A (pq_P t σ μ) sz
abbrev MetI (l : Launch) (y : MethodName) (ws : List Cond) (rm : Room) (As : List Value) (D : va_G) (t : pq_T) (σ : pq_S) (μ : pq_M) (sz mc ms : Nat) (post : Int32 → pq_S × pq_M → Prop) : Prop := Met l y ws rm (va_Pc As (pq_In D t σ μ sz)) (va_Qi post (pq_Ou D t (pq_B t σ μ sz)) (pq_B t σ μ sz)) mc ms (pq_B t σ μ sz)
abbrev MetL (l : Launch) (y : MethodName) (ws : List Cond) (rm : Room) (As : List Value) (D : va_G) (t : pq_T) (σ : pq_S) (μ : pq_M) (sz mc ms : Nat) (post : Int64 → pq_S × pq_M → Prop) : Prop := Met l y ws rm (va_Pc As (pq_In D t σ μ sz)) (va_Ql post (pq_Ou D t (pq_B t σ μ sz)) (pq_B t σ μ sz)) mc ms (pq_B t σ μ sz)
abbrev MetV (l : Launch) (y : MethodName) (ws : List Cond) (rm : Room) (As : List Value) (D : va_G) (t : pq_T) (σ : pq_S) (μ : pq_M) (sz mc ms : Nat) (post : pq_S × pq_M → Prop) : Prop := Met l y ws rm (va_Pc As (pq_In D t σ μ sz)) (va_Qv post (pq_Ou D t (pq_B t σ μ sz)) (pq_B t σ μ sz)) mc ms (pq_B t σ μ sz)
abbrev MetQ (l : Launch) (y : MethodName) (ws : List Cond) (rm : Room) (As : List Value) (D : va_G) (t : pq_T) (σ : pq_S) (μ : pq_M) (sz mc ms : Nat) (post : Option Nat → pq_S × pq_M → Prop) : Prop := Met l y ws rm (va_Pc As (pq_In D t σ μ sz)) (va_Qq post (pq_Ou D t (pq_B t σ μ sz)) (pq_B t σ μ sz)) mc ms (pq_B t σ μ sz)
section PQC
variable {p : Program} {l : Launch} {e : Env} {R : Room} {s : State} {m : MethodId} {args : Array Value} {below : List Frame} {meth : Method} {c : Code} {H : Heap} {locs : List Loc} {cells slots : Nat} {Q : State → Prop}
variable {pc : Nat} {ls : Array Slot} {rest st0 : List Value} {D : va_G} {A : Nat → Prop} {t : pq_T} {σ : pq_S} {μ : pq_M} {H0 : Heap} {mc ms : Nat} {av : Array Value}
theorem pk_i {post : Int32 → pq_S × pq_M → Prop} (hr : va_Run p l e R s m args below meth c H locs cells slots mc ms (F0 m pc ls st0) rest (va_Qi post (pq_Ou D t (pq_B t σ μ H.size)) (pq_B t σ μ H.size) av) (pq_B t σ μ H.size)) (hD : va_D A (pq_P t σ μ)) (hS : va_S A H0 H locs) (hA : ∀ q, H0.size ≤ q → A q)
    (kk : ∀ (r : Int32) (σ1 : pq_S) (μ1 : pq_M) (H1 : Heap) (locs1 : List Loc), post r (σ1, μ1) → va_P D vwCl (pq_P t σ1 μ1) H1 → va_D A (pq_P t σ1 μ1) → va_S A H0 H1 locs1 → W p l e R s m args below meth c H1 locs1 (cells + mc) (slots + ms) Q (F0 m (pc + 3) ls (.int r :: rest))) : W p l e R s m args below meth c H locs cells slots Q (F0 m pc ls st0) := by
  have hF := pq_A (D := D) hD hS hA
  refine va_calli hr hS (fun q _ h => hF q h) hF (fun r u t1 H1 locs1 ht hvm hw hB hz hk hS1 => ?_)
  obtain ⟨hP1, -, hD1⟩ := hB
  exact kk r u.1 u.2 H1 locs1 hw (by rw [← ht]; exact hP1) (hD1.weaken (fun _ q _ h => hF q.1 h)) hS1
theorem pk_l {post : Int64 → pq_S × pq_M → Prop} (hr : va_Run p l e R s m args below meth c H locs cells slots mc ms (F0 m pc ls st0) rest (va_Ql post (pq_Ou D t (pq_B t σ μ H.size)) (pq_B t σ μ H.size) av) (pq_B t σ μ H.size)) (hD : va_D A (pq_P t σ μ)) (hS : va_S A H0 H locs) (hA : ∀ q, H0.size ≤ q → A q)
    (kk : ∀ (r : Int64) (σ1 : pq_S) (μ1 : pq_M) (H1 : Heap) (locs1 : List Loc), post r (σ1, μ1) → va_P D vwCl (pq_P t σ1 μ1) H1 → va_D A (pq_P t σ1 μ1) → va_S A H0 H1 locs1 → W p l e R s m args below meth c H1 locs1 (cells + mc) (slots + ms) Q (F0 m (pc + 3) ls (.long r :: rest))) : W p l e R s m args below meth c H locs cells slots Q (F0 m pc ls st0) := by
  have hF := pq_A (D := D) hD hS hA
  refine va_calll hr hS (fun q _ h => hF q h) hF (fun r u t1 H1 locs1 ht hvm hw hB hz hk hS1 => ?_)
  obtain ⟨hP1, -, hD1⟩ := hB
  exact kk r u.1 u.2 H1 locs1 hw (by rw [← ht]; exact hP1) (hD1.weaken (fun _ q _ h => hF q.1 h)) hS1
theorem pk_v {post : pq_S × pq_M → Prop} (hr : va_Run p l e R s m args below meth c H locs cells slots mc ms (F0 m pc ls st0) rest (va_Qv post (pq_Ou D t (pq_B t σ μ H.size)) (pq_B t σ μ H.size) av) (pq_B t σ μ H.size)) (hD : va_D A (pq_P t σ μ)) (hS : va_S A H0 H locs) (hA : ∀ q, H0.size ≤ q → A q)
    (kk : ∀ (σ1 : pq_S) (μ1 : pq_M) (H1 : Heap) (locs1 : List Loc), post (σ1, μ1) → va_P D vwCl (pq_P t σ1 μ1) H1 → va_D A (pq_P t σ1 μ1) → va_S A H0 H1 locs1 → W p l e R s m args below meth c H1 locs1 (cells + mc) (slots + ms) Q (F0 m (pc + 3) ls rest)) : W p l e R s m args below meth c H locs cells slots Q (F0 m pc ls st0) := by
  have hF := pq_A (D := D) hD hS hA
  refine va_callv hr hS (fun q _ h => hF q h) hF (fun u t1 H1 locs1 ht hvm hw hB hz hk hS1 => ?_)
  obtain ⟨hP1, -, hD1⟩ := hB
  exact kk u.1 u.2 H1 locs1 hw (by rw [← ht]; exact hP1) (hD1.weaken (fun _ q _ h => hF q.1 h)) hS1
end PQC
section PQD
variable {p : Program} {l : Launch} {e : Env} {R : Room} {s : State} {m : MethodId} {args : Array Value} {below : List Frame} {meth : Method} {c : Code} {H : Heap} {locs : List Loc} {cells slots : Nat} {Q : State → Prop}
variable {cc : ByteArray} {pc : Nat} {ls : Array Slot} {rest : List Value} {D : va_G} {A : Nat → Prop} {a : Nat} {t : pq_T} {σ : pq_S} {H0 : Heap}
variable {I : Nat → Nat → Int32} {J : Nat → Nat → Int64} {ri : Nat → Nat → Int32} {rj : Nat → Nat → Int64} {rq : Nat → Nat → Option Nat}
/-- System.arraycopy from the start of one array of int to the start of another -/
theorem pc_i (hx : p.tables.exec = Jvm.exec) (hb : c.code = cc) (hml : c.maxLocals = ls.size) {own : String} {index : Nat} (hown : s.vm.findClass own = some m.cls) (hlink : (Cond.methodLink own index arraycopyName).before args s = true) (hnat : (Cond.native arraycopyName).before args s = true) (hstat : (Cond.static arraycopyName).before args s = true) (hini : (Cond.initialized "java/lang/System").before args s = true)
    (hK : va_K D vwCl (pq_ty t) s) (hP : va_P D vwCl (pq_P t σ (I, J, ri, rj, rq)) H) (hD : va_D A (pq_P t σ (I, J, ri, rj, rq))) (hS : va_S A H0 H locs) {a0 n0 n1 : Nat} (hL0 : a0 ∈ σ.1) (hk0 : σ.2.1 a0 = 13) (hn0 : σ.2.2.2 a0 = n0) (hL : a ∈ σ.1) (hk : σ.2.1 a = 13) (hn1 : σ.2.2.2 a = n1) {sp n : Int32} (h1 : ¬ sp < 0) (h3 : ¬ n < 0) (h4 : sp.toNatClampNeg + n.toNatClampNeg ≤ n0) (h5 : n.toNatClampNeg ≤ n1)
    (hframes : 1 ≤ R.frames) (hlocals : (rest.map fun v => v.category).sum + (nativeFrameWords "java/lang/System" "arraycopy" 5 + 11) ≤ R.locals) (hdg : decode cc pc = .ok (.invokestatic index, 3))
    (kk : ∀ (r1 : Nat → Nat → Int32) (H1 : Heap) (locs1 : List Loc), r1 = va_up ri a (va_cpy (ri a0) (ri a) sp.toNatClampNeg 0 n.toNatClampNeg) → va_P D vwCl (pq_P t σ (I, J, r1, rj, rq)) H1 → va_D A (pq_P t σ (I, J, r1, rj, rq)) → va_S A H0 H1 locs1 → W p l e R s m args below meth c H1 locs1 cells slots Q (F0 m (pc + 3) ls rest)) : W p l e R s m args below meth c H locs cells slots Q (F0 m pc ls (.int n :: .int 0 :: .ref a :: .int sp :: .ref a0 :: rest)) := by
  subst hn0; subst hn1
  obtain ⟨q0, hq0⟩ := pq_in (t := t) (μ := (I, J, ri, rj, rq)) hL0
  obtain ⟨q, hq⟩ := pq_in (t := t) (μ := (I, J, ri, rj, rq)) hL
  have hq2 := hq
  rw [pq_oI hk] at hq2
  rw [pq_oI hk0] at hq0
  have he : (pq_P t σ (I, J, ri, rj, rq)).set q (a, .inl (t.1, σ.2.2.2 a, .inl (va_cpy (ri a0) (ri a) sp.toNatClampNeg (0 : Int32).toNatClampNeg n.toNatClampNeg))) = pq_P t σ (I, J, va_up ri a (va_cpy (ri a0) (ri a) sp.toNatClampNeg 0 n.toNatClampNeg), rj, rq) := pq_set hD hL hq (by rw [pq_oI hk]; simp only [va_up_self]; rfl) (fun b hb => pq_Ea hb)
  refine va_copyi hx hb hml hown hlink hnat hstat hini hK hP hD hS q0 q 0 0 hq0 hq2 rfl rfl rfl h1 (by decide) h3 h4 (by simpa using h5) (fun i _ => rfl) hframes hlocals hdg (fun H1 locs1 hP1 hD1 hS1 => ?_)
  exact kk _ H1 locs1 rfl (he ▸ hP1) (he ▸ hD1) hS1
theorem pc_l (hx : p.tables.exec = Jvm.exec) (hb : c.code = cc) (hml : c.maxLocals = ls.size) {own : String} {index : Nat} (hown : s.vm.findClass own = some m.cls) (hlink : (Cond.methodLink own index arraycopyName).before args s = true) (hnat : (Cond.native arraycopyName).before args s = true) (hstat : (Cond.static arraycopyName).before args s = true) (hini : (Cond.initialized "java/lang/System").before args s = true)
    (hK : va_K D vwCl (pq_ty t) s) (hP : va_P D vwCl (pq_P t σ (I, J, ri, rj, rq)) H) (hD : va_D A (pq_P t σ (I, J, ri, rj, rq))) (hS : va_S A H0 H locs) {a0 n0 n1 : Nat} (hL0 : a0 ∈ σ.1) (hk0 : σ.2.1 a0 = 14) (hn0 : σ.2.2.2 a0 = n0) (hL : a ∈ σ.1) (hk : σ.2.1 a = 14) (hn1 : σ.2.2.2 a = n1) {sp n : Int32} (h1 : ¬ sp < 0) (h3 : ¬ n < 0) (h4 : sp.toNatClampNeg + n.toNatClampNeg ≤ n0) (h5 : n.toNatClampNeg ≤ n1)
    (hframes : 1 ≤ R.frames) (hlocals : (rest.map fun v => v.category).sum + (nativeFrameWords "java/lang/System" "arraycopy" 5 + 11) ≤ R.locals) (hdg : decode cc pc = .ok (.invokestatic index, 3))
    (kk : ∀ (r1 : Nat → Nat → Int64) (H1 : Heap) (locs1 : List Loc), r1 = va_up rj a (va_cpy (rj a0) (rj a) sp.toNatClampNeg 0 n.toNatClampNeg) → va_P D vwCl (pq_P t σ (I, J, ri, r1, rq)) H1 → va_D A (pq_P t σ (I, J, ri, r1, rq)) → va_S A H0 H1 locs1 → W p l e R s m args below meth c H1 locs1 cells slots Q (F0 m (pc + 3) ls rest)) : W p l e R s m args below meth c H locs cells slots Q (F0 m pc ls (.int n :: .int 0 :: .ref a :: .int sp :: .ref a0 :: rest)) := by
  subst hn0; subst hn1
  obtain ⟨q0, hq0⟩ := pq_in (t := t) (μ := (I, J, ri, rj, rq)) hL0
  obtain ⟨q, hq⟩ := pq_in (t := t) (μ := (I, J, ri, rj, rq)) hL
  have hq2 := hq
  rw [pq_oJ hk] at hq2
  rw [pq_oJ hk0] at hq0
  have he : (pq_P t σ (I, J, ri, rj, rq)).set q (a, .inl (t.2.1, σ.2.2.2 a, .inr (.inl (va_cpy (rj a0) (rj a) sp.toNatClampNeg (0 : Int32).toNatClampNeg n.toNatClampNeg)))) = pq_P t σ (I, J, ri, va_up rj a (va_cpy (rj a0) (rj a) sp.toNatClampNeg 0 n.toNatClampNeg), rq) := pq_set hD hL hq (by rw [pq_oJ hk]; simp only [va_up_self]; rfl) (fun b hb => pq_Eb hb)
  refine va_copyl hx hb hml hown hlink hnat hstat hini hK hP hD hS q0 q 1 1 hq0 hq2 rfl rfl rfl h1 (by decide) h3 h4 (by simpa using h5) (fun i _ => rfl) hframes hlocals hdg (fun H1 locs1 hP1 hD1 hS1 => ?_)
  exact kk _ H1 locs1 rfl (he ▸ hP1) (he ▸ hD1) hS1
theorem pk_q {post : Option Nat → pq_S × pq_M → Prop} {st0 : List Value} {μ : pq_M} {mc ms : Nat} {av : Array Value} (hr : va_Run p l e R s m args below meth c H locs cells slots mc ms (F0 m pc ls st0) rest (va_Qq post (pq_Ou D t (pq_B t σ μ H.size)) (pq_B t σ μ H.size) av) (pq_B t σ μ H.size)) (hD : va_D A (pq_P t σ μ)) (hS : va_S A H0 H locs) (hA : ∀ q, H0.size ≤ q → A q)
    (kk : ∀ (r : Option Nat) (σ1 : pq_S) (μ1 : pq_M) (H1 : Heap) (locs1 : List Loc), post r (σ1, μ1) → va_P D vwCl (pq_P t σ1 μ1) H1 → va_D A (pq_P t σ1 μ1) → va_S A H0 H1 locs1 → W p l e R s m args below meth c H1 locs1 (cells + mc) (slots + ms) Q (F0 m (pc + 3) ls (va_rf r :: rest))) : W p l e R s m args below meth c H locs cells slots Q (F0 m pc ls st0) := by
  have hF := pq_A (D := D) hD hS hA
  refine va_callq hr hS (fun q _ h => hF q h) hF (fun r u t1 H1 locs1 ht hvm hw hB hz hk hS1 => ?_)
  obtain ⟨hP1, -, hD1⟩ := hB
  exact kk r u.1 u.2 H1 locs1 hw (by rw [← ht]; exact hP1) (hD1.weaken (fun _ q _ h => hF q.1 h)) hS1
end PQD
/-! ===== making cells ===== -/
def pq_nf (k : Nat) : List Value := pq_fl (fun _ _ => none) (fun _ _ => 0) (fun _ _ => 0) k 0
def pq_R0 (R : Nat → Nat → Option Nat) (q : Nat) : Nat → Nat → Option Nat := fun f => va_up (R f) q none
def pq_I0 (I : Nat → Nat → Int32) (q : Nat) : Nat → Nat → Int32 := fun f => va_up (I f) q 0
def pq_J0 (J : Nat → Nat → Int64) (q : Nat) : Nat → Nat → Int64 := fun f => va_up (J f) q 0
theorem pq_fl0 {R : Nat → Nat → Option Nat} {I : Nat → Nat → Int32} {J : Nat → Nat → Int64} {k q : Nat} : pq_fl (pq_R0 R q) (pq_I0 I q) (pq_J0 J q) k q = pq_nf k := by
  unfold pq_nf pq_fl pq_R0 pq_I0 pq_J0
  split <;> simp only [va_up_self]
theorem pq_fl1 {R : Nat → Nat → Option Nat} {I : Nat → Nat → Int32} {J : Nat → Nat → Int64} {k q b : Nat} (h : b ≠ q) : pq_fl (pq_R0 R q) (pq_I0 I q) (pq_J0 J q) k b = pq_fl R I J k b := by
  unfold pq_fl pq_R0 pq_I0 pq_J0
  split <;> simp only [va_up_ne _ _ h]
/-- an object comes to the pool -/
theorem pq_no {t : pq_T} {σ : pq_S} {I : Nat → Nat → Int32} {J : Nat → Nat → Int64} {r : (Nat → Nat → Int32) × (Nat → Nat → Int64) × (Nat → Nat → Option Nat)} {q k : Nat} (hk : k < 13) (hq : q ∉ σ.1) : pq_P t σ (I, J, r) ++ [(q, .inr (k, pq_nf k))] = pq_P t (σ.1 ++ [q], va_up σ.2.1 q k, pq_R0 σ.2.2.1 q, σ.2.2.2) (pq_I0 I q, pq_J0 J q, r) := by
  refine (va_pl_push hq).trans (va_pl_congr (fun b => ?_))
  by_cases hb : b = q
  · subst hb
    rw [va_up_self, pq_o hk (by exact va_up_self _ _ _)]
    exact congrArg _ (congrArg _ pq_fl0.symm)
  · rw [va_up_ne _ _ hb]
    unfold pq_E
    simp only [va_up_ne _ _ hb, pq_fl1 hb]
/-- an array of int comes to the pool -/
theorem pq_ni {t : pq_T} {σ : pq_S} {I : Nat → Nat → Int32} {J : Nat → Nat → Int64} {ri : Nat → Nat → Int32} {r : (Nat → Nat → Int64) × (Nat → Nat → Option Nat)} {q n : Nat} (hq : q ∉ σ.1) : pq_P t σ (I, J, ri, r) ++ [(q, .inl (t.1, n, .inl (fun _ => 0)))] = pq_P t (σ.1 ++ [q], va_up σ.2.1 q 13, σ.2.2.1, va_up σ.2.2.2 q n) (I, J, va_up ri q (fun _ => 0), r) := by
  refine (va_pl_push hq).trans (va_pl_congr (fun b => ?_))
  by_cases hb : b = q
  · subst hb
    rw [va_up_self, pq_oI (by exact va_up_self _ _ _)]
    simp only [va_up_self]
  · rw [va_up_ne _ _ hb]
    unfold pq_E
    simp only [va_up_ne _ _ hb]
theorem pq_nz {t : pq_T} {σ : pq_S} {I : Nat → Nat → Int32} {J : Nat → Nat → Int64} {ri : Nat → Nat → Int32} {r : (Nat → Nat → Int64) × (Nat → Nat → Option Nat)} {q n : Nat} (hq : q ∉ σ.1) : pq_P t σ (I, J, ri, r) ++ [(q, .inl (t.2.2.1, n, .inl (fun _ => 0)))] = pq_P t (σ.1 ++ [q], va_up σ.2.1 q 15, σ.2.2.1, va_up σ.2.2.2 q n) (I, J, va_up ri q (fun _ => 0), r) := by
  refine (va_pl_push hq).trans (va_pl_congr (fun b => ?_))
  by_cases hb : b = q
  · subst hb
    rw [va_up_self, pq_oZ (by exact va_up_self _ _ _)]
    simp only [va_up_self]
  · rw [va_up_ne _ _ hb]
    unfold pq_E
    simp only [va_up_ne _ _ hb]
theorem pq_nl2 {t : pq_T} {σ : pq_S} {I : Nat → Nat → Int32} {J : Nat → Nat → Int64} {ri : Nat → Nat → Int32} {rj : Nat → Nat → Int64} {rq : Nat → Nat → Option Nat} {q n : Nat} (hq : q ∉ σ.1) : pq_P t σ (I, J, ri, rj, rq) ++ [(q, .inl (t.2.1, n, .inr (.inl (fun _ => 0))))] = pq_P t (σ.1 ++ [q], va_up σ.2.1 q 14, σ.2.2.1, va_up σ.2.2.2 q n) (I, J, ri, va_up rj q (fun _ => 0), rq) := by
  refine (va_pl_push hq).trans (va_pl_congr (fun b => ?_))
  by_cases hb : b = q
  · subst hb
    rw [va_up_self, pq_oJ (by exact va_up_self _ _ _)]
    simp only [va_up_self]
  · rw [va_up_ne _ _ hb]
    unfold pq_E
    simp only [va_up_ne _ _ hb]
theorem pq_nq {t : pq_T} {σ : pq_S} {I : Nat → Nat → Int32} {J : Nat → Nat → Int64} {ri : Nat → Nat → Int32} {rj : Nat → Nat → Int64} {rq : Nat → Nat → Option Nat} {q n : Nat} (hq : q ∉ σ.1) : pq_P t σ (I, J, ri, rj, rq) ++ [(q, .inl (t.2.2.2, n, .inr (.inr (.inr (.inr (fun _ => none))))))] = pq_P t (σ.1 ++ [q], va_up σ.2.1 q 16, σ.2.2.1, va_up σ.2.2.2 q n) (I, J, ri, rj, va_up rq q (fun _ => none)) := by
  refine (va_pl_push hq).trans (va_pl_congr (fun b => ?_))
  by_cases hb : b = q
  · subst hb
    rw [va_up_self, pq_oQ (by exact va_up_self _ _ _)]
    simp only [va_up_self]
  · rw [va_up_ne _ _ hb]
    unfold pq_E
    simp only [va_up_ne _ _ hb]
/-- the tables' array class of a type is one -/
theorem pq_cu {D : va_G} {t1 : List (ClassId × FieldType)} {U : State} {c1 c2 : ClassId} {ty : FieldType} {i : Nat} (h1 : va_K D vwCl t1 U) (hi : t1[i]? = some (c1, ty)) {t2 : List (ClassId × FieldType)} (h2 : va_K D vwCl (t2 ++ [(c2, ty)]) U) : c2 = c1 := by
  have a1 := (h1.2 i _ hi).2
  have a2 := (h2.2 t2.length _ (by rw [List.getElem?_append_right (Nat.le_refl _), Nat.sub_self]; rfl)).2
  cases ty with
  | object C =>
    obtain ⟨_, _, -, -, -, b1⟩ := a1
    obtain ⟨_, _, -, -, -, b2⟩ := a2
    exact Option.some.inj (b2.symm.trans b1)
  | _ => exact Option.some.inj (a2.symm.trans a1)
section PQN
variable {p : Program} {l : Launch} {e : Env} {R : Room} {s : State} {m : MethodId} {args : Array Value} {below : List Frame} {meth : Method} {c : Code} {H : Heap} {locs : List Loc} {cells slots : Nat} {Q : State → Prop}
variable {cc : ByteArray} {pc : Nat} {ls : Array Slot} {rest : List Value} {D : va_G} {A : Nat → Prop} {a : Nat} {t : pq_T} {σ : pq_S} {H0 : Heap}
variable {I : Nat → Nat → Int32} {J : Nat → Nat → Int64} {ri : Nat → Nat → Int32} {rj : Nat → Nat → Int64} {rq : Nat → Nat → Option Nat}
end PQN
/-! ===== one list of words for all ===== -/
abbrev wa (y : MethodName) (c : ByteArray) (n : Nat) (r : Option FieldType) : List Cond := .code y c n r :: wsL_law
theorem tw_c {w a : Cond} (h : w ∈ wsL_law) : w ∈ (a :: wsL_law) := List.mem_cons_of_mem _ h
theorem tw_i {ws : List Cond} {a : Cond} (h : ∀ w ∈ ws, w ∈ wsL_law) : ∀ w ∈ ws, w ∈ (a :: wsL_law) := fun w hw => List.mem_cons_of_mem _ (h w hw)
theorem tw_good : wsL_law.all goodWord = true := by decide +kernel
theorem tw_g1 {w a : Cond} (h : w ∈ wsL_law) : w ∈ (a :: wsL_law) ∧ ((w.onTables && w.keeps) = true ∨ ∃ ty, w = .arrayClass ty) := ⟨tw_c h, good_of_word (List.all_eq_true.mp tw_good w h)⟩
theorem tw_W {a : Cond} {y : MethodName} {c : ByteArray} {n : Nat} {r : Option FieldType} (h5 : Cond.code y c n r ∈ wsL_law) : GoodIn (a :: wsL_law) (wa y c n r) := fun w hw => tw_g1 ((List.mem_cons.mp hw).elim (fun e => e ▸ h5) id)
theorem tw_V {a : Cond} {own C : String} {idx : Nat} {y : MethodName} {c : ByteArray} {n : Nat} {r : Option FieldType} (h1 : Cond.methodLink own idx y ∈ wsL_law) (h2 : Cond.instanceMethod y ∈ wsL_law) (h3 : Cond.selects C y y ∈ wsL_law) (h4 : Cond.initialized C ∈ wsL_law) (h5 : Cond.code y c n r ∈ wsL_law) : GoodIn (a :: wsL_law) (wsV own idx C y (wa y c n r)) := by
  intro w hw
  unfold wsV at hw
  rcases List.mem_append.mp hw with h | h
  · simp only [List.mem_cons, List.not_mem_nil, or_false] at h
    rcases h with rfl | rfl | rfl | rfl
    · exact tw_g1 h1
    · exact tw_g1 h2
    · exact tw_g1 h3
    · exact tw_g1 h4
  · exact tw_W h5 w h
theorem tw_S {a : Cond} {own : String} {idx : Nat} {y : MethodName} {c : ByteArray} {n : Nat} {r : Option FieldType} (h1 : Cond.methodLink own idx y ∈ wsL_law) (h2 : Cond.static y ∈ wsL_law) (h4 : Cond.initialized y.cls ∈ wsL_law) (h5 : Cond.code y c n r ∈ wsL_law) : GoodIn (a :: wsL_law) (va_wsS own idx y (wa y c n r)) := by
  intro w hw
  unfold va_wsS at hw
  rcases List.mem_append.mp hw with h | h
  · simp only [List.mem_cons, List.not_mem_nil, or_false] at h
    rcases h with rfl | rfl | rfl
    · exact tw_g1 h1
    · exact tw_g1 h2
    · exact tw_g1 h4
  · exact tw_W h5 w h
/-! ===== plain facts ===== -/
theorem sw_ne {x k : Int32} (h : ¬ x = k) {n : Int} (e : k.toInt = n) : x.toInt ≠ n := fun q => h (Int32.toInt_inj.mp (q.trans e.symm))
theorem nq_le {a b : Nat} (ha : a < 2 ^ 31) (hb : b < 2 ^ 31) (h : nI a ≤ nI b) : a ≤ b := (nI_leI ha hb).mp h
theorem nq_nle {a b : Nat} (ha : a < 2 ^ 31) (hb : b < 2 ^ 31) (h : ¬ nI a ≤ nI b) : b < a := Nat.not_le.mp fun q => h ((nI_leI ha hb).mpr q)
/-! ===== ranges ===== -/
def rg (x : Int32) (a b : Int) : Prop := a ≤ x.toInt ∧ x.toInt ≤ b
theorem rg_full (x : Int32) : rg x (-2147483648) 2147483647 := ⟨by have := x.le_toInt; omega, by have := x.toInt_lt; omega⟩
theorem rg_w {x : Int32} {a b c d : Int} (h : rg x a b) (h1 : c ≤ a ∧ b ≤ d) : rg x c d := ⟨Int.le_trans h1.1 h.1, Int.le_trans h.2 h1.2⟩
theorem rg_k (v : Int32) (n : Int) (h : v.toInt = n) : rg v n n := ⟨by rw [h]; exact Int.le_refl _, by rw [h]; exact Int.le_refl _⟩
theorem rg_and {x : Int32} {a b c d : Int} (h : rg x a b) (h2 : rg x c d) {lo hi : Int} (h3 : (lo = a ∨ lo = c) ∧ (hi = b ∨ hi = d)) : rg x lo hi := by
  obtain ⟨h4, h5⟩ := h3
  refine ⟨?_, ?_⟩
  · rcases h4 with e | e <;> rw [e]
    · exact h.1
    · exact h2.1
  · rcases h5 with e | e <;> rw [e]
    · exact h.2
    · exact h2.2
theorem bm (n : Int) (h1 : -2147483648 ≤ n) (h2 : n ≤ 2147483647) : n.bmod (2 ^ 32) = n := by
  have h : (2 : Nat) ^ 32 = 4294967296 := rfl
  rw [h]
  exact Int.bmod_eq_of_le (by omega) (by omega)
theorem i_add {x y : Int32} {a b : Int} (hx : x.toInt = a) (hy : y.toInt = b) (h1 : -2147483648 ≤ a + b) (h2 : a + b ≤ 2147483647) : (x + y).toInt = a + b := by
  rw [Int32.toInt_add, hx, hy]; exact bm _ h1 h2
theorem i_sub {x y : Int32} {a b : Int} (hx : x.toInt = a) (hy : y.toInt = b) (h1 : -2147483648 ≤ a - b) (h2 : a - b ≤ 2147483647) : (x - y).toInt = a - b := by
  rw [Int32.toInt_sub, hx, hy]; exact bm _ h1 h2
theorem i_mul {x y : Int32} {a b : Int} (hx : x.toInt = a) (hy : y.toInt = b) (h1 : -2147483648 ≤ a * b) (h2 : a * b ≤ 2147483647) : (x * y).toInt = a * b := by
  rw [Int32.toInt_mul, hx, hy]; exact bm _ h1 h2
theorem rg_add {x y : Int32} {a b c d lo hi : Int} (hx : rg x a b) (hy : rg y c d) (h : (-2147483648 ≤ a + c ∧ b + d ≤ 2147483647) ∧ lo ≤ a + c ∧ b + d ≤ hi) : rg (x + y) lo hi := by
  obtain ⟨x1, x2⟩ := hx
  obtain ⟨y1, y2⟩ := hy
  have e := i_add (x := x) (y := y) rfl rfl (by omega) (by omega)
  exact ⟨by rw [e]; omega, by rw [e]; omega⟩
theorem rg_sub {x y : Int32} {a b c d lo hi : Int} (hx : rg x a b) (hy : rg y c d) (h : (-2147483648 ≤ a - d ∧ b - c ≤ 2147483647) ∧ lo ≤ a - d ∧ b - c ≤ hi) : rg (x - y) lo hi := by
  obtain ⟨x1, x2⟩ := hx
  obtain ⟨y1, y2⟩ := hy
  have e := i_sub (x := x) (y := y) rfl rfl (by omega) (by omega)
  exact ⟨by rw [e]; omega, by rw [e]; omega⟩
theorem rg_mul {x y : Int32} {a b c d lo hi : Int} (hx : rg x a b) (hy : rg y c d) (h : (0 ≤ a ∧ 0 ≤ c ∧ b * d ≤ 2147483647) ∧ lo ≤ a * c ∧ b * d ≤ hi) : rg (x * y) lo hi := by
  obtain ⟨x1, x2⟩ := hx
  obtain ⟨y1, y2⟩ := hy
  obtain ⟨⟨a0, c0, hb⟩, h1, h2⟩ := h
  have p1 : a * c ≤ x.toInt * y.toInt := Int.mul_le_mul x1 y1 c0 (Int.le_trans a0 x1)
  have p2 : x.toInt * y.toInt ≤ b * d := Int.mul_le_mul x2 y2 (Int.le_trans c0 y1) (Int.le_trans a0 (Int.le_trans x1 x2))
  have p3 : 0 ≤ a * c := Int.mul_nonneg a0 c0
  have e := i_mul (x := x) (y := y) rfl rfl (by omega) (by omega)
  exact ⟨by rw [e]; omega, by rw [e]; omega⟩
theorem rg_neg {x : Int32} {a b lo hi : Int} (hx : rg x a b) (h : (-2147483648 ≤ -b ∧ -a ≤ 2147483647) ∧ lo ≤ -b ∧ -a ≤ hi) : rg (-x) lo hi := by
  obtain ⟨x1, x2⟩ := hx
  have e : (-x).toInt = -x.toInt := by rw [Int32.toInt_neg]; exact bm _ (by omega) (by omega)
  exact ⟨by rw [e]; omega, by rw [e]; omega⟩
theorem rg_in {x : Int32} {a b : Int} {n : Nat} (h : rg x a b) (h1 : 0 ≤ a ∧ b < (n : Int)) : vp_in x n := vp_in_iff.mpr ⟨Int.le_trans h1.1 h.1, Int.lt_of_le_of_lt h.2 h1.2⟩
theorem rg_of_eq {x y : Int32} {a b : Int} (e : x = y) (h : rg y a b) : rg x a b := e ▸ h
/-- what a comparison adds -/
theorem rg_lt1 {x y : Int32} {a b c d lo hi : Int} (q : x < y) (hx : rg x a b) (hy : rg y c d) (h : (lo ≤ a) ∧ (b ≤ hi ∨ d - 1 ≤ hi)) : rg x lo hi := by
  rw [Int32.lt_iff_toInt_lt] at q
  obtain ⟨x1, x2⟩ := hx
  obtain ⟨y1, y2⟩ := hy
  exact ⟨by omega, by omega⟩
theorem rg_lt2 {x y : Int32} {a b c d lo hi : Int} (q : x < y) (hx : rg x a b) (hy : rg y c d) (h : (lo ≤ c ∨ lo ≤ a + 1) ∧ d ≤ hi) : rg y lo hi := by
  rw [Int32.lt_iff_toInt_lt] at q
  obtain ⟨x1, x2⟩ := hx
  obtain ⟨y1, y2⟩ := hy
  exact ⟨by omega, by omega⟩
theorem rg_le1 {x y : Int32} {a b c d lo hi : Int} (q : x ≤ y) (hx : rg x a b) (hy : rg y c d) (h : (lo ≤ a) ∧ (b ≤ hi ∨ d ≤ hi)) : rg x lo hi := by
  rw [Int32.le_iff_toInt_le] at q
  obtain ⟨x1, x2⟩ := hx
  obtain ⟨y1, y2⟩ := hy
  exact ⟨by omega, by omega⟩
theorem rg_le2 {x y : Int32} {a b c d lo hi : Int} (q : x ≤ y) (hx : rg x a b) (hy : rg y c d) (h : (lo ≤ c ∨ lo ≤ a) ∧ d ≤ hi) : rg y lo hi := by
  rw [Int32.le_iff_toInt_le] at q
  obtain ⟨x1, x2⟩ := hx
  obtain ⟨y1, y2⟩ := hy
  exact ⟨by omega, by omega⟩
theorem nlt {x y : Int32} (h : ¬ x < y) : y ≤ x := Int32.not_lt.mp h
theorem nle {x y : Int32} (h : ¬ x ≤ y) : y < x := Int32.not_le.mp h
theorem rg_ne {x : Int32} {k : Int32} {a b lo hi : Int} (q : ¬ x = k) (hx : rg x a b) (n : Int) (hk : k.toInt = n) (h : (lo ≤ a ∨ (a = n ∧ lo ≤ a + 1)) ∧ (b ≤ hi ∨ (b = n ∧ b - 1 ≤ hi))) : rg x lo hi := by
  have q2 : x.toInt ≠ n := fun e => q (Int32.toInt_inj.mp (e.trans hk.symm))
  obtain ⟨x1, x2⟩ := hx
  exact ⟨by omega, by omega⟩
theorem bool01 {v : Int32} (h : rg v 0 1) : v = 0 ∨ v = 1 := by
  obtain ⟨h1, h2⟩ := h
  have : v.toInt = 0 ∨ v.toInt = 1 := by omega
  rcases this with e | e
  · exact Or.inl (Int32.toInt_inj.mp (e.trans (by decide)))
  · exact Or.inr (Int32.toInt_inj.mp (e.trans (by decide)))
theorem rg_empty {x : Int32} {a b : Int} (h : rg x a b) (h1 : b < a) : False := by
  obtain ⟨x1, x2⟩ := h
  omega
/-- measures of loops -/
theorem ms_up {x y : Int32} {n : Nat} {a b M : Int} (k : Int) (hm : (M - x.toInt).toNat < n + 1) (e : y = x + Int32.ofInt k) (hk : (Int32.ofInt k).toInt = k) (h0 : 0 < k) (hx : rg x a b) (hb : b + k ≤ 2147483647 ∧ -2147483648 ≤ a) (hM : b < M) : (M - y.toInt).toNat < n := by
  obtain ⟨x1, x2⟩ := hx
  have e2 : y.toInt = x.toInt + k := by rw [e]; exact i_add rfl hk (by omega) (by omega)
  omega
theorem ms_dn {x y : Int32} {n : Nat} {a b M : Int} (k : Int) (hm : (x.toInt - M).toNat < n + 1) (e : y = x + Int32.ofInt (-k)) (hk : (Int32.ofInt (-k)).toInt = -k) (h0 : 0 < k) (hx : rg x a b) (hb : -2147483648 ≤ a - k ∧ b ≤ 2147483647) (hM : M < a) : (y.toInt - M).toNat < n := by
  obtain ⟨x1, x2⟩ := hx
  have e2 : y.toInt = x.toInt + -k := by rw [e]; exact i_add rfl hk (by omega) (by omega)
  omega
theorem rg_max2 {x y : Int32} {a b c d lo hi : Int} (hx : rg x a b) (hy : rg y c d) (h : (lo ≤ a ∨ lo ≤ c) ∧ b ≤ hi ∧ d ≤ hi) : rg (if x < y then y else x) lo hi := by
  obtain ⟨x1, x2⟩ := hx
  obtain ⟨y1, y2⟩ := hy
  split
  · next q => rw [Int32.lt_iff_toInt_lt] at q; exact ⟨by omega, by omega⟩
  · next q => have q := Int32.le_iff_toInt_le.mp (Int32.not_lt.mp q); exact ⟨by omega, by omega⟩
theorem rg_min2 {x y : Int32} {a b c d lo hi : Int} (hx : rg x a b) (hy : rg y c d) (h : (b ≤ hi ∨ d ≤ hi) ∧ lo ≤ a ∧ lo ≤ c) : rg (if y < x then y else x) lo hi := by
  obtain ⟨x1, x2⟩ := hx
  obtain ⟨y1, y2⟩ := hy
  split
  · next q => rw [Int32.lt_iff_toInt_lt] at q; exact ⟨by omega, by omega⟩
  · next q => have q := Int32.le_iff_toInt_le.mp (Int32.not_lt.mp q); exact ⟨by omega, by omega⟩
theorem i_add_rg {x y : Int32} {a b c d a2 b2 : Int} (e1 : x.toInt = a2) (e2 : y.toInt = b2) (hx : rg x a b) (hy : rg y c d) (h : -2147483648 ≤ a + c ∧ b + d ≤ 2147483647) : (x + y).toInt = a2 + b2 := by
  obtain ⟨x1, x2⟩ := hx
  obtain ⟨y1, y2⟩ := hy
  exact i_add e1 e2 (by omega) (by omega)
theorem i_sub_rg {x y : Int32} {a b c d a2 b2 : Int} (e1 : x.toInt = a2) (e2 : y.toInt = b2) (hx : rg x a b) (hy : rg y c d) (h : -2147483648 ≤ a - d ∧ b - c ≤ 2147483647) : (x - y).toInt = a2 - b2 := by
  obtain ⟨x1, x2⟩ := hx
  obtain ⟨y1, y2⟩ := hy
  exact i_sub e1 e2 (by omega) (by omega)
theorem ms_fu_iadd {o o2 x z k : Int32} {n : Nat} {M a b kk : Int} (hm : (M - o.toInt).toNat < n + 1) (e1 : z = x) (e2 : x = o2 + k) (e3 : o2 = o) (hk : k.toInt = kk) (h0 : 0 < kk) (hx : rg o2 a b) (hb : b + kk ≤ 2147483647 ∧ -2147483648 ≤ a) (hM : b < M) : (M - z.toInt).toNat < n := by
  obtain ⟨x1, x2⟩ := hx
  subst e3
  have e : z.toInt = o2.toInt + kk := by rw [e1, e2]; exact i_add rfl hk (by omega) (by omega)
  omega
theorem ms_fd_isub {o o2 x z k : Int32} {n : Nat} {M a b kk : Int} (hm : (o.toInt - M).toNat < n + 1) (e1 : z = x) (e2 : x = o2 - k) (e3 : o2 = o) (hk : k.toInt = kk) (h0 : 0 < kk) (hx : rg o2 a b) (hb : -2147483648 ≤ a - kk ∧ b ≤ 2147483647) (hM : M < a) : (z.toInt - M).toNat < n := by
  obtain ⟨x1, x2⟩ := hx
  subst e3
  have e : z.toInt = o2.toInt - kk := by rw [e1, e2]; exact i_sub rfl hk (by omega) (by omega)
  omega
theorem rg_abs {x : Int32} {a b lo hi : Int} (hx : rg x a b) (h : (-2147483648 ≤ -b ∧ -a ≤ 2147483647) ∧ lo ≤ 0 ∧ b ≤ hi ∧ -a ≤ hi) : rg (if 0 ≤ x then x else 0 - x) lo hi := by
  obtain ⟨x1, x2⟩ := hx
  split
  · next q => rw [Int32.le_iff_toInt_le] at q; have h0 : (0 : Int32).toInt = 0 := rfl; exact ⟨by omega, by omega⟩
  · next q =>
    have q := Int32.lt_iff_toInt_lt.mp (Int32.not_le.mp q)
    have h0 : (0 : Int32).toInt = 0 := rfl
    have e := i_sub (x := 0) (y := x) h0 rfl (by omega) (by omega)
    exact ⟨by rw [e]; omega, by rw [e]; omega⟩
theorem rg_div {x k : Int32} {a b n lo hi : Int} (hx : rg x a b) (hk : k.toInt = n) (h : (0 ≤ a ∧ 0 < n) ∧ lo ≤ a / n ∧ b / n ≤ hi) : rg (x / k) lo hi := by
  obtain ⟨x1, x2⟩ := hx
  obtain ⟨⟨a0, n0⟩, h1, h2⟩ := h
  have hk1 : k ≠ -1 := fun q => by rw [q] at hk; have : (-1 : Int32).toInt = -1 := rfl; omega
  have e : (x / k).toInt = x.toInt / n := by
    rw [Int32.toInt_div_of_ne_right _ _ hk1, hk]
    exact Int.tdiv_eq_ediv_of_nonneg (by omega)
  have p1 : a / n ≤ x.toInt / n := Int.ediv_le_ediv n0 x1
  have p2 : x.toInt / n ≤ b / n := Int.ediv_le_ediv n0 x2
  exact ⟨by rw [e]; omega, by rw [e]; omega⟩
theorem rg_rem {x k : Int32} {a b n lo hi : Int} (hx : rg x a b) (hk : k.toInt = n) (h : (0 ≤ a ∧ 0 < n) ∧ lo ≤ 0 ∧ (b ≤ hi ∨ n - 1 ≤ hi)) : rg (x - x / k * k) lo hi := by
  obtain ⟨x1, x2⟩ := hx
  obtain ⟨⟨a0, n0⟩, h1, h2⟩ := h
  have hk1 : k ≠ -1 := fun q => by rw [q] at hk; have : (-1 : Int32).toInt = -1 := rfl; omega
  have e : (x / k).toInt = x.toInt / n := by
    rw [Int32.toInt_div_of_ne_right _ _ hk1, hk]
    exact Int.tdiv_eq_ediv_of_nonneg (by omega)
  have m1 : 0 ≤ x.toInt / n := Int.ediv_nonneg (by omega) (by omega)
  have m2 : x.toInt / n * n ≤ x.toInt := Int.ediv_mul_le _ (by omega)
  have m3 : x.toInt < (x.toInt / n + 1) * n := Int.lt_ediv_add_one_mul_self _ n0
  have m4 : 0 ≤ x.toInt / n * n := Int.mul_nonneg m1 (by omega)
  have m5 : (x.toInt / n + 1) * n = x.toInt / n * n + n := by rw [Int.add_mul, Int.one_mul]
  have hx1 := x.toInt_lt
  have e2 := i_mul (x := x / k) (y := k) e hk (by omega) (by omega)
  have e3 := i_sub (x := x) (y := x / k * k) rfl e2 (by omega) (by omega)
  exact ⟨by rw [e3]; omega, by rw [e3]; omega⟩
theorem rg_pos {x : Int32} {a b : Int} (hx : rg x a b) (h : 0 ≤ a) : ¬ x < 0 := by
  obtain ⟨x1, x2⟩ := hx
  intro q
  rw [Int32.lt_iff_toInt_lt] at q
  have h0 : (0 : Int32).toInt = 0 := rfl
  omega
theorem rg_cl {x : Int32} {a b : Int} {n : Nat} (hx : rg x a b) (h : b ≤ (n : Int)) : x.toNatClampNeg ≤ n := by
  have h1 := hx.2
  have e : x.toInt.toNat = x.toNatClampNeg := rfl
  omega
theorem rg_cl1 {x : Int32} {a b : Int} {n : Nat} (hx : rg x a b) (h : b < (n : Int) ∧ 0 < n) : x.toNatClampNeg < n := by
  have h1 := hx.2
  have e : x.toInt.toNat = x.toNatClampNeg := rfl
  omega
theorem rg_cp {x y : Int32} {a b c d : Int} {n : Nat} (hx : rg x a b) (hy : rg y c d) (h : 0 ≤ b ∧ 0 ≤ d ∧ b + d ≤ (n : Int)) : x.toNatClampNeg + y.toNatClampNeg ≤ n := by
  have h1 := hx.2
  have h2 := hy.2
  have e : x.toInt.toNat = x.toNatClampNeg := rfl
  have e2 : y.toInt.toNat = y.toNatClampNeg := rfl
  omega
theorem cpy_eq {r r1 : Nat → Nat → Int32} {a b N : Nat} {i : Int32} {lo hi : Int} (e : r1 = va_up r b (va_cpy (r a) (r b) (0 : Int32).toNatClampNeg 0 i.toNatClampNeg)) (h : rg i lo hi) (hn : lo = (N : Int)) : ∀ j, j < N → r1 b j = r a j := by
  intro j hj
  have h1 := h.1
  have e2 : i.toInt.toNat = i.toNatClampNeg := rfl
  have e3 : (0 : Int32).toNatClampNeg = 0 := rfl
  rw [e, va_up_self]
  unfold va_cpy
  rw [if_pos (by omega), e3]
  congr 1
  omega
theorem rp_w {r r1 : Nat → Nat → Int32} {a n : Nat} {i v : Int32} {lo hi : Int} (h : ∀ j, j < n → rg (r a j) lo hi) (e : r1 = va_up r a (upd (r a) i.toNatClampNeg v)) (hv : rg v lo hi) : ∀ j, j < n → rg (r1 a j) lo hi := by
  intro j hj
  rw [e, va_up_self]
  unfold upd
  split
  · exact hv
  · exact h j hj
theorem rp_o {r r1 : Nat → Nat → Int32} {a b n : Nat} {g : Nat → Int32} {lo hi : Int} (h : ∀ j, j < n → rg (r a j) lo hi) (e : r1 = va_up r b g) (hne : a ≠ b) : ∀ j, j < n → rg (r1 a j) lo hi := by
  intro j hj
  rw [e, va_up_ne _ _ hne]
  exact h j hj
theorem tg_ne {tg : Nat → Nat} {a b s t : Nat} (ha : tg a = s) (hb : tg b = t) (h : s ≠ t) : a ≠ b := fun q => h (by rw [← ha, ← hb, q])
/-! ===== shapes and ranges, by fields ===== -/
def ftpl : List (List (Nat × Nat × Nat)) := [[(99, 0, 0), (0, 13, 40), (0, 13, 40), (0, 13, 40), (0, 13, 40), (0, 13, 40), (0, 13, 40), (0, 13, 40), (0, 13, 40), (0, 13, 40), (99, 0, 0), (0, 13, 5), (0, 13, 5), (0, 13, 5), (0, 13, 50), (0, 13, 50)],
  [(99, 0, 0), (1, 13, 30), (1, 14, 30)],
  [(99, 0, 0), (99, 0, 0), (99, 0, 0), (99, 0, 0), (2, 14, 600), (2, 13, 40), (2, 13, 40), (2, 13, 40), (2, 13, 40), (2, 13, 40), (2, 13, 40), (2, 13, 40), (2, 13, 40), (2, 13, 40), (2, 9, 0), (2, 13, 40), (2, 13, 5), (2, 13, 40), (2, 13, 32), (2, 13, 21)],
  [(99, 0, 0), (3, 16, 10), (99, 0, 0), (3, 13, 30), (3, 13, 30), (3, 13, 30), (3, 13, 6), (3, 13, 40)],
  [(4, 6, 0), (99, 0, 0), (99, 0, 0), (4, 8, 0), (99, 0, 0), (4, 13, 40), (99, 0, 0), (99, 0, 0), (99, 0, 0), (99, 0, 0), (99, 0, 0), (99, 0, 0)],
  [(99, 0, 0), (5, 13, 5), (5, 13, 5), (5, 13, 40), (99, 0, 0), (5, 14, 12), (5, 13, 60), (5, 14, 12)],
  [(6, 13, 300), (99, 0, 0), (99, 0, 0), (99, 0, 0), (99, 0, 0), (99, 0, 0)],
  [(99, 0, 0), (7, 13, 200), (7, 13, 200), (7, 13, 200), (7, 13, 200), (7, 13, 12), (7, 13, 12), (7, 13, 12), (7, 13, 12), (7, 13, 12), (99, 0, 0), (99, 0, 0), (99, 0, 0), (99, 0, 0), (99, 0, 0)],
  [(99, 0, 0), (8, 13, 20), (8, 13, 21), (8, 13, 300)],
  [(9, 13, 40), (9, 13, 40), (9, 13, 40)],
  [(99, 0, 0), (99, 0, 0), (99, 0, 0), (99, 0, 0), (99, 0, 0), (10, 13, 40), (10, 7, 0), (10, 2, 0), (10, 0, 0), (10, 3, 0), (10, 1, 0), (10, 13, 40), (10, 13, 5)],
  [(11, 10, 0), (11, 10, 0), (11, 10, 0), (11, 5, 0), (11, 4, 0)],
  [(12, 13, 12720), (12, 13, 12720), (12, 13, 12720), (12, 13, 300), (99, 0, 0), (99, 0, 0), (99, 0, 0), (99, 0, 0), (99, 0, 0), (99, 0, 0), (99, 0, 0), (99, 0, 0), (99, 0, 0), (99, 0, 0), (99, 0, 0), (99, 0, 0), (12, 13, 160), (99, 0, 0), (99, 0, 0), (99, 0, 0), (12, 14, 330), (12, 15, 330), (99, 0, 0), (99, 0, 0), (12, 13, 5), (12, 13, 40), (99, 0, 0), (12, 13, 40), (12, 15, 40), (12, 13, 5), (12, 13, 5)]]
def ftp (f : Nat) : Nat × Nat × Nat := (((ftpl[f / 32]?).getD [])[f % 32]?).getD (99, 0, 0)
def rItl : List (List (Int × Int)) := [[(0, 40), (-2147483648, 2147483647), (-2147483648, 2147483647), (-2147483648, 2147483647), (-2147483648, 2147483647), (-2147483648, 2147483647), (-2147483648, 2147483647), (-2147483648, 2147483647), (-2147483648, 2147483647), (-2147483648, 2147483647), (0, 5), (-2147483648, 2147483647), (-2147483648, 2147483647), (-2147483648, 2147483647), (-2147483648, 2147483647), (-2147483648, 2147483647)],
  [(0, 30), (-2147483648, 2147483647), (-2147483648, 2147483647)],
  [(0, 5), (0, 40), (-2147483648, 2147483647), (-2147483648, 2147483647), (-2147483648, 2147483647), (-2147483648, 2147483647), (-2147483648, 2147483647), (-2147483648, 2147483647), (-2147483648, 2147483647), (-2147483648, 2147483647), (-2147483648, 2147483647), (-2147483648, 2147483647), (-2147483648, 2147483647), (-2147483648, 2147483647), (-2147483648, 2147483647), (-2147483648, 2147483647), (-2147483648, 2147483647), (-2147483648, 2147483647), (-2147483648, 2147483647), (-2147483648, 2147483647)],
  [(0, 10), (-2147483648, 2147483647), (0, 30), (-2147483648, 2147483647), (-2147483648, 2147483647), (-2147483648, 2147483647), (-2147483648, 2147483647), (-2147483648, 2147483647)],
  [(-2147483648, 2147483647), (-2147483648, 2147483647), (-2147483648, 2147483647), (-2147483648, 2147483647), (0, 300), (-2147483648, 2147483647), (0, 40), (-2147483648, 2147483647), (-2147483648, 2147483647), (0, 1), (0, 1), (0, 1)],
  [(-2147483648, 2147483647), (-2147483648, 2147483647), (-2147483648, 2147483647), (-2147483648, 2147483647), (0, 40), (-2147483648, 2147483647), (-2147483648, 2147483647), (-2147483648, 2147483647)],
  [(-2147483648, 2147483647), (0, 300), (-2147483648, 2147483647), (0, 300), (-2147483648, 2147483647), (0, 300)],
  [(0, 200), (-2147483648, 2147483647), (-2147483648, 2147483647), (-2147483648, 2147483647), (-2147483648, 2147483647), (-2147483648, 2147483647), (-2147483648, 2147483647), (-2147483648, 2147483647), (-2147483648, 2147483647), (-2147483648, 2147483647), (-2147483648, 2147483647), (-2147483648, 2147483647), (-2147483648, 2147483647), (0, 20), (-2147483648, 2147483647)],
  [(0, 20), (-2147483648, 2147483647), (-2147483648, 2147483647), (-2147483648, 2147483647)],
  [(-2147483648, 2147483647), (-2147483648, 2147483647), (-2147483648, 2147483647)],
  [(0, 600), (-2147483648, 2147483647), (-2147483648, 2147483647), (-2147483648, 2147483647), (-2147483648, 2147483647), (-2147483648, 2147483647), (-2147483648, 2147483647), (-2147483648, 2147483647), (-2147483648, 2147483647), (-2147483648, 2147483647), (-2147483648, 2147483647), (-2147483648, 2147483647), (-2147483648, 2147483647)],
  [(-2147483648, 2147483647), (-2147483648, 2147483647), (-2147483648, 2147483647), (-2147483648, 2147483647), (-2147483648, 2147483647)],
  [(-2147483648, 2147483647), (-2147483648, 2147483647), (-2147483648, 2147483647), (-2147483648, 2147483647), (-2147483648, 2147483647), (-2147483648, 2147483647), (-2147483648, 2147483647), (-2147483648, 2147483647), (-2147483648, 2147483647), (-2147483648, 2147483647), (-2147483648, 2147483647), (-2147483648, 2147483647), (-2147483648, 2147483647), (-2147483648, 2147483647), (-2147483648, 2147483647), (-2147483648, 2147483647), (-2147483648, 2147483647), (-2147483648, 2147483647), (-2147483648, 2147483647), (0, 1), (-2147483648, 2147483647), (-2147483648, 2147483647), (-2147483648, 2147483647), (-2147483648, 2147483647), (-2147483648, 2147483647), (-2147483648, 2147483647), (-2147483648, 2147483647), (-2147483648, 2147483647), (-2147483648, 2147483647), (-2147483648, 2147483647), (-2147483648, 2147483647)]]
def rIt (f : Nat) : Int × Int := (((rItl[f / 32]?).getD [])[f % 32]?).getD (-2147483648, 2147483647)
def rAtl : List (List (Int × Int)) := [[(-2147483648, 2147483647), (0, 9), (-2147483648, 2147483647), (-2147483648, 2147483647), (-2147483648, 2147483647), (0, 300), (-2147483648, 2147483647), (-2147483648, 2147483647), (-2147483648, 2147483647), (-2147483648, 2147483647), (-2147483648, 2147483647), (-2147483648, 2147483647), (-2147483648, 2147483647), (-2147483648, 2147483647), (-2147483648, 2147483647), ((-2), 4)],
  [(-2147483648, 2147483647), (0, 39), (-2147483648, 2147483647)],
  [(-2147483648, 2147483647), (-2147483648, 2147483647), (-2147483648, 2147483647), (-2147483648, 2147483647), (-2147483648, 2147483647), (0, 4), (-2147483648, 2147483647), (0, 31), (0, 31), (-2147483648, 2147483647), (-2147483648, 2147483647), (-2147483648, 2147483647), (-2147483648, 2147483647), (-2147483648, 2147483647), (-2147483648, 2147483647), ((-1), 39), ((-1), 39), (-2147483648, 2147483647), (-2147483648, 2147483647), (0, 20)],
  [(-2147483648, 2147483647), (-2147483648, 2147483647), (-2147483648, 2147483647), (0, 9), (-2147483648, 2147483647), (-2147483648, 2147483647), (-2147483648, 2147483647), (-2147483648, 2147483647)],
  [(-2147483648, 2147483647), (-2147483648, 2147483647), (-2147483648, 2147483647), (-2147483648, 2147483647), (-2147483648, 2147483647), (-2147483648, 2147483647), (-2147483648, 2147483647), (-2147483648, 2147483647), (-2147483648, 2147483647), (-2147483648, 2147483647), (-2147483648, 2147483647), (-2147483648, 2147483647)],
  [(-2147483648, 2147483647), (-2147483648, 2147483647), (0, 4), (0, 39), (-2147483648, 2147483647), (-2147483648, 2147483647), (-2147483648, 2147483647), (-2147483648, 2147483647)],
  [(-2147483648, 2147483647), (-2147483648, 2147483647), (-2147483648, 2147483647), (-2147483648, 2147483647), (-2147483648, 2147483647), (-2147483648, 2147483647)],
  [(-2147483648, 2147483647), (-2147483648, 2147483647), (-2147483648, 2147483647), (-2147483648, 2147483647), (-2147483648, 2147483647), (-2147483648, 2147483647), (-2147483648, 2147483647), (-2147483648, 2147483647), (-2147483648, 2147483647), (-2147483648, 2147483647), (-2147483648, 2147483647), (-2147483648, 2147483647), (-2147483648, 2147483647), (-2147483648, 2147483647), (-2147483648, 2147483647)],
  [(-2147483648, 2147483647), (-2147483648, 2147483647), (0, 300), (-2147483648, 2147483647)],
  [(-2147483648, 2147483647), (-2147483648, 2147483647), (-2147483648, 2147483647)],
  [(-2147483648, 2147483647), (-2147483648, 2147483647), (-2147483648, 2147483647), (-2147483648, 2147483647), (-2147483648, 2147483647), ((-1), 39), (-2147483648, 2147483647), (-2147483648, 2147483647), (-2147483648, 2147483647), (-2147483648, 2147483647), (-2147483648, 2147483647), (0, 39), (-2147483648, 2147483647)],
  [(-2147483648, 2147483647), (-2147483648, 2147483647), (-2147483648, 2147483647), (-2147483648, 2147483647), (-2147483648, 2147483647)],
  [(-2147483648, 2147483647), (-2147483648, 2147483647), (-2147483648, 2147483647), (-2147483648, 2147483647), (-2147483648, 2147483647), (-2147483648, 2147483647), (-2147483648, 2147483647), (-2147483648, 2147483647), (-2147483648, 2147483647), (-2147483648, 2147483647), (-2147483648, 2147483647), (-2147483648, 2147483647), (-2147483648, 2147483647), (-2147483648, 2147483647), (-2147483648, 2147483647), (-2147483648, 2147483647), (-2147483648, 2147483647), (-2147483648, 2147483647), (-2147483648, 2147483647), (-2147483648, 2147483647), (-2147483648, 2147483647), (0, 1), (-2147483648, 2147483647), (-2147483648, 2147483647), (-2147483648, 2147483647), (-2147483648, 2147483647), (-2147483648, 2147483647), (-2147483648, 2147483647), (0, 1), (-2147483648, 2147483647), (-2147483648, 2147483647)]]
def rAt (f : Nat) : Int × Int := (((rAtl[f / 32]?).getD [])[f % 32]?).getD (-2147483648, 2147483647)
abbrev cfl : List Nat := [64, 65, 224, 10, 0, 32, 320, 193, 197, 194, 129, 132, 134, 256, 96, 98, 234, 235, 236]
abbrev rtl : List Nat := [225, 226, 227, 228, 229, 230, 231, 232, 233, 69, 70, 73, 74, 75, 79, 288, 33, 5]
abbrev jtl : List Nat := [34]
def SH (σ : pq_S) (tg : Nat → Nat) : Prop := ∀ a ∈ σ.1, ∀ f, (ftp f).1 = σ.2.1 a → ∃ w, σ.2.2.1 f a = some w ∧ w ∈ σ.1 ∧ σ.2.1 w = (ftp f).2.1 ∧ (13 ≤ (ftp f).2.1 → σ.2.2.2 w = (ftp f).2.2 ∧ tg w = f)
theorem sh_o {σ : pq_S} {tg : Nat → Nat} (h : SH σ tg) (f : Nat) {ci kd ln a : Nat} (e : ftp f = (ci, kd, ln)) (hL : a ∈ σ.1) (hK : σ.2.1 a = ci) : ∃ w, σ.2.2.1 f a = some w ∧ w ∈ σ.1 ∧ σ.2.1 w = kd := by
  obtain ⟨w, h1, h2, h3, -⟩ := h a hL f (by rw [e]; exact hK.symm)
  exact ⟨w, h1, h2, by rw [h3, e]⟩
theorem sh_a {σ : pq_S} {tg : Nat → Nat} (h : SH σ tg) (f : Nat) {ci kd len a : Nat} (e : ftp f = (ci, kd, len)) (h13 : 13 ≤ kd) (hL : a ∈ σ.1) (hK : σ.2.1 a = ci) : ∃ w, σ.2.2.1 f a = some w ∧ w ∈ σ.1 ∧ σ.2.1 w = kd ∧ σ.2.2.2 w = len ∧ tg w = f := by
  obtain ⟨w, h1, h2, h3, h4⟩ := h a hL f (by rw [e]; exact hK.symm)
  have h5 := h4 (by rw [e]; exact h13)
  rw [e] at h5
  exact ⟨w, h1, h2, by rw [h3, e], h5.1, h5.2⟩
def TX (σ : pq_S) (I ri : Nat → Nat → Int32) : Prop := ∀ w ∈ σ.1, σ.2.1 w = 8 → ∀ q, σ.2.2.1 258 w = some q → ∀ c : Nat, (c : Int) < (I 256 w).toInt → (ri q c).toInt ≤ 299
def GS (tg : Nat → Nat) (σ : pq_S) (I ri : Nat → Nat → Int32) (rq : Nat → Nat → Option Nat) : Prop := (∀ f a, rg (I f a) (rIt f).1 (rIt f).2) ∧ (∀ q j, rg (ri q j) (rAt (tg q)).1 (rAt (tg q)).2) ∧ (∀ q j w, rq q j = some w → w ∈ σ.1 ∧ σ.2.1 w = 8) ∧ TX σ I ri
def GX (X : List Nat) (tg : Nat → Nat) (σ : pq_S) (I0 r0 : Nat → Nat → Int32) (j0 : Nat → Nat → Int64) (I ri : Nat → Nat → Int32) (rj : Nat → Nat → Int64) (rq : Nat → Nat → Option Nat) : Prop := GS tg σ I ri rq ∧ (∀ f, f ∈ cfl → f ∉ X → I f = I0 f) ∧ (∀ t, t ∈ rtl → 1000 + t ∉ X → ∀ q, tg q = t → ri q = r0 q) ∧ ∀ t, t ∈ jtl → 1000 + t ∉ X → ∀ q, tg q = t → rj q = j0 q
section GXS
variable {X Y : List Nat} {tg : Nat → Nat} {σ : pq_S} {I0 r0 I I1 ri r1 : Nat → Nat → Int32} {j0 rj j1 : Nat → Nat → Int64} {rq q1 : Nat → Nat → Option Nat}
theorem GX.rI (h : GX X tg σ I0 r0 j0 I ri rj rq) (f : Nat) {lo hi : Int} {a : Nat} (e : rIt f = (lo, hi)) : rg (I f a) lo hi := by
  have h1 := h.1.1 f a
  rw [e] at h1
  exact h1
theorem GX.rR (h : GX X tg σ I0 r0 j0 I ri rj rq) {q j t : Nat} {lo hi : Int} (ht : tg q = t) (e : rAt t = (lo, hi)) : rg (ri q j) lo hi := by
  have h1 := h.1.2.1 q j
  rw [ht, e] at h1
  exact h1
theorem GX.rQ (h : GX X tg σ I0 r0 j0 I ri rj rq) {q j w : Nat} (e : rq q j = some w) : w ∈ σ.1 ∧ σ.2.1 w = 8 := h.1.2.2.1 q j w e
theorem GX.wI (h : GX X tg σ I0 r0 j0 I ri rj rq) (f : Nat) {lo hi : Int} {a : Nat} {v : Int32} (e : rIt f = (lo, hi)) (e1 : I1 = pq_u I f a v) (hv : rg v lo hi) (hf : (f ∉ cfl ∨ f ∈ X) ∧ f ≠ 256) : GX X tg σ I0 r0 j0 I1 ri rj rq := by
  subst e1
  refine ⟨⟨fun g b => ?_, h.1.2.1, h.1.2.2.1, ?_⟩, fun g hg hx => ?_, h.2.2⟩
  · by_cases hgf : g = f
    · subst hgf
      by_cases hb : b = a
      · subst hb
        rw [pq_us, e]
        exact hv
      · rw [pq_ua _ _ _ _ hb]
        exact h.1.1 g b
    · rw [pq_uf _ _ _ hgf]
      exact h.1.1 g b
  · intro w hw hk q hq c hc
    rw [pq_uf _ _ _ (Ne.symm hf.2)] at hc
    exact h.1.2.2.2 w hw hk q hq c hc
  · have hgf : g ≠ f := fun q => by
      subst q
      rcases hf.1 with z | z
      · exact z hg
      · exact hx z
    rw [pq_uf _ _ _ hgf]
    exact h.2.1 g hg hx
theorem GX.wR (h : GX X tg σ I0 r0 j0 I ri rj rq) (hSH : SH σ tg) {q t : Nat} {i v : Int32} {lo hi : Int} (ht : tg q = t) (e : rAt t = (lo, hi)) (e1 : r1 = va_up ri q (upd (ri q) i.toNatClampNeg v)) (hv : rg v lo hi) (hn : t ≠ 258 ∧ (t ∉ rtl ∨ 1000 + t ∈ X)) : GX X tg σ I0 r0 j0 I r1 rj rq := by
  subst e1
  refine ⟨⟨h.1.1, fun p j => ?_, h.1.2.2.1, ?_⟩, h.2.1, fun t2 ht2 hx q2 hq2 => ?_, h.2.2.2⟩
  · by_cases hp : p = q
    · subst hp
      rw [va_up_self]
      unfold upd
      split
      · rw [ht, e]
        exact hv
      · exact h.1.2.1 p j
    · rw [va_up_ne _ _ hp]
      exact h.1.2.1 p j
  · intro w hw hk z hz c hc
    have hne : z ≠ q := fun y => by
      obtain ⟨z2, e2, -, -, -, e6⟩ := sh_a hSH 258 (ci := 8) (kd := 13) (len := 21) rfl (by decide) hw hk
      rw [hz] at e2
      have e3 := Option.some.inj e2
      subst e3
      rw [y, ht] at e6
      exact hn.1 e6
    rw [va_up_ne _ _ hne]
    exact h.1.2.2.2 w hw hk z hz c hc
  · have hne : q2 ≠ q := fun y => by
      rw [y, ht] at hq2
      rw [← hq2] at ht2 hx
      rcases hn.2 with z | z
      · exact z ht2
      · exact hx z
    rw [va_up_ne _ _ hne]
    exact h.2.2.1 t2 ht2 hx q2 hq2
theorem GX.cR (h : GX X tg σ I0 r0 j0 I ri rj rq) (hSH : SH σ tg) {p q s t n : Nat} {i : Int32} {lo hi lo2 hi2 : Int} (hs : tg p = s) (e : rAt s = (lo, hi)) (ht : tg q = t) (e2 : rAt t = (lo2, hi2)) (e1 : r1 = va_up ri q (va_cpy (ri p) (ri q) i.toNatClampNeg 0 n)) (hn : ((lo2 ≤ lo ∧ hi ≤ hi2) ∧ t ≠ 258) ∧ (t ∉ rtl ∨ 1000 + t ∈ X)) : GX X tg σ I0 r0 j0 I r1 rj rq := by
  subst e1
  refine ⟨⟨h.1.1, fun b j => ?_, h.1.2.2.1, ?_⟩, h.2.1, fun t2 ht2 hx q2 hq2 => ?_, h.2.2.2⟩
  · by_cases hb : b = q
    · subst hb
      rw [va_up_self]
      unfold va_cpy
      split
      · rw [ht, e2]
        exact rg_w (h.rR hs e) hn.1.1
      · exact h.1.2.1 b j
    · rw [va_up_ne _ _ hb]
      exact h.1.2.1 b j
  · intro w hw hk z hz c hc
    have hne : z ≠ q := fun y => by
      obtain ⟨z2, e2, -, -, -, e6⟩ := sh_a hSH 258 (ci := 8) (kd := 13) (len := 21) rfl (by decide) hw hk
      rw [hz] at e2
      have e3 := Option.some.inj e2
      subst e3
      rw [y, ht] at e6
      exact hn.1.2 e6
    rw [va_up_ne _ _ hne]
    exact h.1.2.2.2 w hw hk z hz c hc
  · have hne : q2 ≠ q := fun y => by
      rw [y, ht] at hq2
      rw [← hq2] at ht2 hx
      rcases hn.2 with z | z
      · exact z ht2
      · exact hx z
    rw [va_up_ne _ _ hne]
    exact h.2.2.1 t2 ht2 hx q2 hq2
theorem GX.wJ (h : GX X tg σ I0 r0 j0 I ri rj rq) {q t : Nat} {f : Nat → Int64} (ht : tg q = t) (e1 : j1 = va_up rj q f) (hn : t ∉ jtl ∨ 1000 + t ∈ X) : GX X tg σ I0 r0 j0 I ri j1 rq := by
  subst e1
  refine ⟨h.1, h.2.1, h.2.2.1, fun t2 ht2 hx q2 hq2 => ?_⟩
  have hne : q2 ≠ q := fun y => by
    rw [y, ht] at hq2
    rw [← hq2] at ht2 hx
    rcases hn with z | z
    · exact z ht2
    · exact hx z
  rw [va_up_ne _ _ hne]
  exact h.2.2.2 t2 ht2 hx q2 hq2
theorem GX.wQ (h : GX X tg σ I0 r0 j0 I ri rj rq) {q j v : Nat} (hL : v ∈ σ.1) (hK : σ.2.1 v = 8) (e1 : q1 = va_up rq q (va_up (rq q) j (some v))) : GX X tg σ I0 r0 j0 I ri rj q1 := by
  subst e1
  refine ⟨⟨h.1.1, h.1.2.1, fun p k w hw => ?_, h.1.2.2.2⟩, h.2⟩
  unfold va_up at hw
  split at hw
  · next e =>
    subst e
    have hw : (if k = j then some v else rq p k) = some w := hw
    split at hw
    · cases hw; exact ⟨hL, hK⟩
    · exact h.1.2.2.1 _ k w hw
  · exact h.1.2.2.1 p k w hw
theorem GX.wQn (h : GX X tg σ I0 r0 j0 I ri rj rq) {q j : Nat} (e1 : q1 = va_up rq q (va_up (rq q) j none)) : GX X tg σ I0 r0 j0 I ri rj q1 := by
  subst e1
  refine ⟨⟨h.1.1, h.1.2.1, fun p k w hw => ?_, h.1.2.2.2⟩, h.2⟩
  unfold va_up at hw
  split at hw
  · next e =>
    subst e
    have hw : (if k = j then none else rq p k) = some w := hw
    split at hw
    · cases hw
    · exact h.1.2.2.1 _ k w hw
  · exact h.1.2.2.1 p k w hw
theorem GX.tr (h : GX X tg σ I0 r0 j0 I ri rj rq) (h1 : GX Y tg σ I ri rj I1 r1 j1 q1) (hs : ∀ f ∈ Y, f ∈ X) : GX X tg σ I0 r0 j0 I1 r1 j1 q1 := ⟨h1.1, fun f hf hx => (h1.2.1 f hf (fun q => hx (hs f q))).trans (h.2.1 f hf hx), fun t ht hx q hq => (h1.2.2.1 t ht (fun z => hx (hs _ z)) q hq).trans (h.2.2.1 t ht hx q hq), fun t ht hx q hq => (h1.2.2.2 t ht (fun z => hx (hs _ z)) q hq).trans (h.2.2.2 t ht hx q hq)⟩
theorem GX.tx (h : GX X tg σ I0 r0 j0 I ri rj rq) {w q : Nat} {c : Int32} (hL : w ∈ σ.1) (hK : σ.2.1 w = 8) (hR : σ.2.2.1 258 w = some q) (hT : tg q = 258) (h0 : 0 ≤ c.toInt) (h1 : c.toInt < (I 256 w).toInt) : rg (ri q c.toNatClampNeg) 0 299 := by
  have e2 : c.toInt.toNat = c.toNatClampNeg := rfl
  exact ⟨(h.rR (lo := 0) (hi := 300) hT rfl).1, h.1.2.2.2 w hL hK q hR _ (by omega)⟩
end GXS
theorem q_gen {p : Program} {l : Launch} {e : Env} {R : Room} {s : State} {m : MethodId} {args : Array Value} {below : List Frame} {meth : Method} {c : Code} {H : Heap} {locs : List Loc} {cells slots : Nat} {Q : State → Prop} {g : JFrame} (k : ∀ Q' : State → Prop, Q' = Q → W p l e R s m args below meth c H locs cells slots Q' g) : W p l e R s m args below meth c H locs cells slots Q g := k Q rfl
theorem min_le (x y : Int32) : (if y < x then y else x).toInt ≤ x.toInt ∧ (if y < x then y else x).toInt ≤ y.toInt := by
  split
  · next q => rw [Int32.lt_iff_toInt_lt] at q; exact ⟨by omega, by omega⟩
  · next q => have q := Int32.le_iff_toInt_le.mp (Int32.not_lt.mp q); exact ⟨by omega, by omega⟩
section PQR
variable {p : Program} {l : Launch} {e : Env} {R : Room} {s : State} {m : MethodId} {args : Array Value} {below : List Frame} {meth : Method} {c : Code} {H : Heap} {locs : List Loc} {cells slots : Nat} {Q : State → Prop}
variable {cc : ByteArray} {pc : Nat} {ls : Array Slot} {rest : List Value} {D : va_G} {A : Nat → Prop} {a : Nat} {t : pq_T} {σ : pq_S} {H0 : Heap}
variable {I : Nat → Nat → Int32} {J : Nat → Nat → Int64} {ri : Nat → Nat → Int32} {rj : Nat → Nat → Int64} {rq : Nat → Nat → Option Nat}
theorem pq_Ec {t : pq_T} {σ : pq_S} {I : Nat → Nat → Int32} {J : Nat → Nat → Int64} {ri : Nat → Nat → Int32} {rj : Nat → Nat → Int64} {rq : Nat → Nat → Option Nat} {a b : Nat} {v : Nat → Option Nat} (h : b ≠ a) : pq_E t σ (I, J, ri, rj, va_up rq a v) b = pq_E t σ (I, J, ri, rj, rq) b := by
  unfold pq_E
  split <;> simp only [va_up_ne _ _ h]
theorem pl_q (hx : p.tables.exec = Jvm.exec) (hb : c.code = cc) (hK : va_K D vwCl (pq_ty t) s) (hP : va_P D vwCl (pq_P t σ (I, J, ri, rj, rq)) H) (hL : a ∈ σ.1) (hk : σ.2.1 a = 16) {n : Nat} (hn : σ.2.2.2 a = n) {i : Int32} (hin : vp_in i n) (hdg : decode cc pc = .ok (.aaload, 1))
    (kk : W p l e R s m args below meth c H locs cells slots Q (F0 m (pc + 1) ls (va_rf (rq a i.toNatClampNeg) :: rest))) : W p l e R s m args below meth c H locs cells slots Q (F0 m pc ls (.int i :: .ref a :: rest)) := by
  subst hn
  obtain ⟨q, hq⟩ := pq_in (t := t) (μ := (I, J, ri, rj, rq)) hL
  rw [pq_oQ hk] at hq
  exact va_aldq hx hb hK hP q 3 hq rfl hin hdg kk
theorem pt_q (hx : p.tables.exec = Jvm.exec) (hb : c.code = cc) (hK : va_K D vwCl (pq_ty t) s) (hP : va_P D vwCl (pq_P t σ (I, J, ri, rj, rq)) H) (hD : va_D A (pq_P t σ (I, J, ri, rj, rq))) (hS : va_S A H0 H locs) (hL : a ∈ σ.1) (hk : σ.2.1 a = 16) {n v : Nat} (hn : σ.2.2.2 a = n) (hLv : v ∈ σ.1) (hkv : σ.2.1 v = 8) {i : Int32} (hin : vp_in i n) (hdg : decode cc pc = .ok (.aastore, 1))
    (kk : ∀ (q1 : Nat → Nat → Option Nat) (H1 : Heap) (locs1 : List Loc), q1 = va_up rq a (va_up (rq a) i.toNatClampNeg (some v)) → va_P D vwCl (pq_P t σ (I, J, ri, rj, q1)) H1 → va_D A (pq_P t σ (I, J, ri, rj, q1)) → va_S A H0 H1 locs1 → W p l e R s m args below meth c H1 locs1 cells slots Q (F0 m (pc + 1) ls rest)) : W p l e R s m args below meth c H locs cells slots Q (F0 m pc ls (.ref v :: .int i :: .ref a :: rest)) := by
  subst hn
  obtain ⟨q, hq⟩ := pq_in (t := t) (μ := (I, J, ri, rj, rq)) hL
  obtain ⟨qv, hqv⟩ := pq_in (t := t) (μ := (I, J, ri, rj, rq)) hLv
  have hq2 := hq
  rw [pq_oQ hk] at hq2
  rw [pq_o (by decide) hkv] at hqv
  have he : (pq_P t σ (I, J, ri, rj, rq)).set q (a, .inl (t.2.2.2, σ.2.2.2 a, .inr (.inr (.inr (.inr (va_up (rq a) i.toNatClampNeg (some v))))))) = pq_P t σ (I, J, ri, rj, va_up rq a (va_up (rq a) i.toNatClampNeg (some v))) := pq_set hD hL hq (by rw [pq_oQ hk]; simp only [va_up_self]) (fun b hb => pq_Ec hb)
  refine va_astq hx hb hK hP hD hS q 3 qv 8 hq2 rfl hqv rfl hin hdg (fun H1 locs1 hP1 hD1 hS1 => ?_)
  exact kk _ H1 locs1 rfl (he ▸ hP1) (he ▸ hD1) hS1
theorem pt_qn (hx : p.tables.exec = Jvm.exec) (hb : c.code = cc) (hK : va_K D vwCl (pq_ty t) s) (hP : va_P D vwCl (pq_P t σ (I, J, ri, rj, rq)) H) (hD : va_D A (pq_P t σ (I, J, ri, rj, rq))) (hS : va_S A H0 H locs) (hL : a ∈ σ.1) (hk : σ.2.1 a = 16) {n : Nat} (hn : σ.2.2.2 a = n) {i : Int32} (hin : vp_in i n) (hdg : decode cc pc = .ok (.aastore, 1))
    (kk : ∀ (q1 : Nat → Nat → Option Nat) (H1 : Heap) (locs1 : List Loc), q1 = va_up rq a (va_up (rq a) i.toNatClampNeg none) → va_P D vwCl (pq_P t σ (I, J, ri, rj, q1)) H1 → va_D A (pq_P t σ (I, J, ri, rj, q1)) → va_S A H0 H1 locs1 → W p l e R s m args below meth c H1 locs1 cells slots Q (F0 m (pc + 1) ls rest)) : W p l e R s m args below meth c H locs cells slots Q (F0 m pc ls (.null :: .int i :: .ref a :: rest)) := by
  subst hn
  obtain ⟨q, hq⟩ := pq_in (t := t) (μ := (I, J, ri, rj, rq)) hL
  have hq2 := hq
  rw [pq_oQ hk] at hq2
  have he : (pq_P t σ (I, J, ri, rj, rq)).set q (a, .inl (t.2.2.2, σ.2.2.2 a, .inr (.inr (.inr (.inr (va_up (rq a) i.toNatClampNeg none)))))) = pq_P t σ (I, J, ri, rj, va_up rq a (va_up (rq a) i.toNatClampNeg none)) := pq_set hD hL hq (by rw [pq_oQ hk]; simp only [va_up_self]) (fun b hb => pq_Ec hb)
  refine va_astqN hx hb hK hP hD hS q 3 hq2 rfl hin hdg (fun H1 locs1 hP1 hD1 hS1 => ?_)
  exact kk _ H1 locs1 rfl (he ▸ hP1) (he ▸ hD1) hS1
end PQR
theorem nl_0 {s : State} (h : pq_N s) : va_Nw (.methodLinkNest RX7 55 yX11_fill "RingsUnder") s := h.1 (RX7, 55, yX11_fill) (List.mem_of_getElem? (i := 0) rfl)
theorem nl_1 {s : State} (h : pq_N s) : va_Nw (.methodLinkNest RX2 45 yX9_init "RingsUnder") s := h.1 (RX2, 45, yX9_init) (List.mem_of_getElem? (i := 1) rfl)
theorem nl_2 {s : State} (h : pq_N s) : va_Nw (.methodLinkNest RX2 65 yX11_fill "RingsUnder") s := h.1 (RX2, 65, yX11_fill) (List.mem_of_getElem? (i := 2) rfl)
theorem nl_3 {s : State} (h : pq_N s) : va_Nw (.methodLinkNest RX10 38 yX0_init "RingsUnder") s := h.1 (RX10, 38, yX0_init) (List.mem_of_getElem? (i := 3) rfl)
theorem nl_4 {s : State} (h : pq_N s) : va_Nw (.methodLinkNest RX10 45 yX3_init "RingsUnder") s := h.1 (RX10, 45, yX3_init) (List.mem_of_getElem? (i := 4) rfl)
theorem nl_5 {s : State} (h : pq_N s) : va_Nw (.methodLinkNest RX10 52 yX1_init "RingsUnder") s := h.1 (RX10, 52, yX1_init) (List.mem_of_getElem? (i := 5) rfl)
theorem nl_6 {s : State} (h : pq_N s) : va_Nw (.methodLinkNest RX10 63 yX11_fill "RingsUnder") s := h.1 (RX10, 63, yX11_fill) (List.mem_of_getElem? (i := 6) rfl)
theorem nl_7 {s : State} (h : pq_N s) : va_Nw (.methodLinkNest RX11 24 yX5_init "RingsUnder") s := h.1 (RX11, 24, yX5_init) (List.mem_of_getElem? (i := 7) rfl)
theorem nl_8 {s : State} (h : pq_N s) : va_Nw (.methodLinkNest RX11 31 yX4_init "RingsUnder") s := h.1 (RX11, 31, yX4_init) (List.mem_of_getElem? (i := 8) rfl)
theorem nl_9 {s : State} (h : pq_N s) : va_Nw (.methodLinkNest RX4 11 yX6_init "RingsUnder") s := h.1 (RX4, 11, yX6_init) (List.mem_of_getElem? (i := 9) rfl)
theorem nl_10 {s : State} (h : pq_N s) : va_Nw (.methodLinkNest RX4 27 yX8_init "RingsUnder") s := h.1 (RX4, 27, yX8_init) (List.mem_of_getElem? (i := 10) rfl)
theorem nl_11 {s : State} (h : pq_N s) : va_Nw (.methodLinkNest RX2 101 yX11_hasBit "RingsUnder") s := h.1 (RX2, 101, yX11_hasBit) (List.mem_of_getElem? (i := 11) rfl)
theorem nl_12 {s : State} (h : pq_N s) : va_Nw (.methodLinkNest RX3 65 yX11_hasBit "RingsUnder") s := h.1 (RX3, 65, yX11_hasBit) (List.mem_of_getElem? (i := 12) rfl)
theorem nl_13 {s : State} (h : pq_N s) : va_Nw (.methodLinkNest RX0 73 yX11_hasBit "RingsUnder") s := h.1 (RX0, 73, yX11_hasBit) (List.mem_of_getElem? (i := 13) rfl)
theorem nl_14 {s : State} (h : pq_N s) : va_Nw (.methodLinkNest RX9 29 yX11_hasBit "RingsUnder") s := h.1 (RX9, 29, yX11_hasBit) (List.mem_of_getElem? (i := 14) rfl)
theorem nl_15 {s : State} (h : pq_N s) : va_Nw (.methodLinkNest RX0 58 yX11_copy "RingsUnder") s := h.1 (RX0, 58, yX11_copy) (List.mem_of_getElem? (i := 15) rfl)
theorem nl_16 {s : State} (h : pq_N s) : va_Nw (.methodLinkNest RX0 113 yX11_fill "RingsUnder") s := h.1 (RX0, 113, yX11_fill) (List.mem_of_getElem? (i := 16) rfl)
theorem nl_17 {s : State} (h : pq_N s) : va_Nw (.methodLinkNest RX10 76 yX11_copy "RingsUnder") s := h.1 (RX10, 76, yX11_copy) (List.mem_of_getElem? (i := 17) rfl)
theorem nl_18 {s : State} (h : pq_N s) : va_Nw (.methodLinkNest RX7 62 yX11_copy "RingsUnder") s := h.1 (RX7, 62, yX11_copy) (List.mem_of_getElem? (i := 18) rfl)
theorem nl_19 {s : State} (h : pq_N s) : va_Nw (.methodLinkNest RX2 89 yX11_copy "RingsUnder") s := h.1 (RX2, 89, yX11_copy) (List.mem_of_getElem? (i := 19) rfl)
theorem nl_20 {s : State} (h : pq_N s) : va_Nw (.methodLinkNest RX9 21 yX11_copy "RingsUnder") s := h.1 (RX9, 21, yX11_copy) (List.mem_of_getElem? (i := 20) rfl)
theorem nl_21 {s : State} (h : pq_N s) : va_Nw (.methodLinkNest RX3 40 yX11_copy "RingsUnder") s := h.1 (RX3, 40, yX11_copy) (List.mem_of_getElem? (i := 21) rfl)
theorem nl_22 {s : State} (h : pq_N s) : va_Nw (.methodLinkNest RX1 23 yX11_copy "RingsUnder") s := h.1 (RX1, 23, yX11_copy) (List.mem_of_getElem? (i := 22) rfl)
theorem nl_23 {s : State} (h : pq_N s) : va_Nw (.methodLinkNest RX5 60 yX11_copy "RingsUnder") s := h.1 (RX5, 60, yX11_copy) (List.mem_of_getElem? (i := 23) rfl)
theorem nl_24 {s : State} (h : pq_N s) : va_Nw (.methodLinkNest RX10 226 yX11_hasBit "RingsUnder") s := h.1 (RX10, 226, yX11_hasBit) (List.mem_of_getElem? (i := 24) rfl)
theorem nl_25 {s : State} (h : pq_N s) : va_Nw (.methodLinkNest RX1 33 yX11_hasBit "RingsUnder") s := h.1 (RX1, 33, yX11_hasBit) (List.mem_of_getElem? (i := 25) rfl)
theorem clampE (x : Int32) : x.toInt.toNat = x.toNatClampNeg := rfl
/-! ===== the outcome as a function: pieces that a walk takes apart ===== -/
def ap1 {α β : Type} (v : α) (k : α → β) : β := k v
theorem ap_n {α β : Type} {v z : α} {k : α → β} (e : z = v) : ap1 v k = k z := by rw [e]; rfl
abbrev vM : Type := (Nat → Int32) × (Nat → Int64) × (Nat → Nat → Int32) × (Nat → Nat → Int64) × (Nat → Nat → Option Nat)
def bnI {α β : Type} (p : α × vM) (k : α → (Nat → Int32) → (Nat → Int64) → (Nat → Nat → Int32) → (Nat → Nat → Int64) → (Nat → Nat → Option Nat) → β) : β := k p.1 p.2.1 p.2.2.1 p.2.2.2.1 p.2.2.2.2.1 p.2.2.2.2.2
theorem bn_n {α β : Type} {p : α × vM} {k : α → (Nat → Int32) → (Nat → Int64) → (Nat → Nat → Int32) → (Nat → Nat → Int64) → (Nat → Nat → Option Nat) → β} {r : α} {I : Nat → Int32} {J : Nat → Int64} {ri : Nat → Nat → Int32} {rj : Nat → Nat → Int64} {rq : Nat → Nat → Option Nat} (e : p = (r, I, J, ri, rj, rq)) : bnI p k = k r I J ri rj rq := by rw [e]; rfl
def bnV {β : Type} (p : vM) (k : (Nat → Int32) → (Nat → Int64) → (Nat → Nat → Int32) → (Nat → Nat → Int64) → (Nat → Nat → Option Nat) → β) : β := k p.1 p.2.1 p.2.2.1 p.2.2.2.1 p.2.2.2.2
theorem bv_n {β : Type} {p : vM} {k : (Nat → Int32) → (Nat → Int64) → (Nat → Nat → Int32) → (Nat → Nat → Int64) → (Nat → Nat → Option Nat) → β} {I : Nat → Int32} {J : Nat → Int64} {ri : Nat → Nat → Int32} {rj : Nat → Nat → Int64} {rq : Nat → Nat → Option Nat} (e : p = (I, J, ri, rj, rq)) : bnV p k = k I J ri rj rq := by rw [e]; rfl
def opt1 {β : Type} (o : Option Nat) (a : β) (k : Nat → β) : β := match o with
  | none => a
  | some w => k w
theorem op_n {β : Type} {o v : Option Nat} {a : β} {k : Nat → β} (e : o = v) : opt1 v a k = opt1 o a k := by rw [e]
theorem op_0 {β : Type} {a : β} {k : Nat → β} : opt1 none a k = a := rfl
theorem op_1 {β : Type} {a : β} {k : Nat → β} {w : Nat} : opt1 (some w) a k = k w := rfl
def fil (v : Int32) (n : Nat) (g : Nat → Int32) : Nat → Int32 := fun j => if j < n then v else g j
theorem fil_0 {r : Nat → Nat → Int32} {a : Nat} {v : Int32} : r = va_up r a (fil v (0 : Int32).toNatClampNeg (r a)) := by
  have z : (0 : Int32).toNatClampNeg = 0 := by decide
  rw [z]
  funext q
  by_cases h : q = a
  · subst h; rw [va_up_self]; funext j; unfold fil; rw [if_neg (Nat.not_lt_zero j)]
  · rw [va_up_ne _ _ h]
theorem fil_s {r0 r r1 : Nat → Nat → Int32} {a : Nat} {v i i1 : Int32} (h : r = va_up r0 a (fil v i.toNatClampNeg (r0 a))) (e : r1 = va_up r a (upd (r a) i.toNatClampNeg v)) (hn : i1.toNatClampNeg = i.toNatClampNeg + 1) : r1 = va_up r0 a (fil v i1.toNatClampNeg (r0 a)) := by
  rw [e, hn]
  funext q
  by_cases hq : q = a
  · subst hq
    rw [va_up_self, va_up_self, h, va_up_self]
    funext j
    unfold upd fil
    by_cases hj : j = i.toNatClampNeg
    · rw [if_pos hj, if_pos (by omega)]
    · rw [if_neg hj]
      by_cases h2 : j < i.toNatClampNeg
      · rw [if_pos h2, if_pos (by omega)]
      · rw [if_neg h2, if_neg (by omega)]
  · rw [va_up_ne _ _ hq, va_up_ne _ _ hq, h, va_up_ne _ _ hq]
/-! ===== a tree of the pool, by fields and tags ===== -/
def kd (σ : pq_S) (f a : Nat) : Nat := (σ.2.2.1 f a).getD 0
theorem kd_e {σ : pq_S} {f a w : Nat} (h : σ.2.2.1 f a = some w) : w = kd σ f a := by unfold kd; rw [h]; rfl
def vo (σ : pq_S) (c W : Nat) : Nat := match c with
  | 0 => kd σ 328 W
  | 1 => kd σ 330 W
  | 2 => kd σ 327 W
  | 3 => kd σ 329 W
  | 6 => kd σ 128 W
  | 7 => kd σ 326 W
  | 8 => kd σ 131 W
  | 9 => kd σ 78 (kd σ 327 W)
  | _ => W
def vrow (σ : pq_S) (t W : Nat) : Nat := kd σ t (vo σ (t / 32) W)
theorem vo_k {σ : pq_S} {c f a w W : Nat} (hO : a = vo σ c W) (hR : σ.2.2.1 f a = some w) : w = kd σ f (vo σ c W) := by rw [← hO]; exact kd_e hR
def vcl (k c : Nat) : Bool := if k = 10 then decide (c ∈ [0, 1, 2, 3, 7, 9, 10]) else if k = 4 then decide (c ∈ [4, 6, 8]) else decide (c = 12)
def vok (k t : Nat) : Bool := vcl k (ftp t).1 && decide (13 ≤ (ftp t).2.1)
theorem vcl_5 {k c : Nat} (h : vcl k c = true) : c ≠ 5 := fun e => by
  subst e
  unfold vcl at h
  split at h
  · exact absurd h (by decide)
  · split at h
    · exact absurd h (by decide)
    · exact absurd h (by decide)
theorem ftp_cl : ∀ f, f < 416 → (ftp f).1 = f / 32 ∨ (ftp f).1 = 99 := by decide +kernel
theorem ftp_c (f : Nat) : (ftp f).1 = f / 32 ∨ (ftp f).1 = 99 := by
  by_cases hf : f < 416
  · exact ftp_cl f hf
  · refine Or.inr ?_
    unfold ftp
    rw [show ftpl[f / 32]? = none from List.getElem?_eq_none (by show 13 ≤ f / 32; omega)]
    rfl
theorem vcl_99 (k : Nat) : vcl k 99 = false := by
  unfold vcl
  split
  · decide
  · split
    · decide
    · decide
theorem vok_c {k t : Nat} (h : vok k t = true) : (ftp t).1 = t / 32 ∧ vcl k (t / 32) = true ∧ 13 ≤ (ftp t).2.1 := by
  unfold vok at h
  rw [Bool.and_eq_true] at h
  obtain ⟨h1, h2⟩ := h
  rcases ftp_c t with e | e
  · rw [e] at h1; exact ⟨e, h1, of_decide_eq_true h2⟩
  · rw [e, vcl_99] at h1; exact absurd h1 (by decide)
def VO (k : Nat) (σ : pq_S) (W : Nat) : Prop := ∀ c, vcl k c = true → vo σ c W ∈ σ.1 ∧ σ.2.1 (vo σ c W) = c
def VT (k : Nat) (σ : pq_S) (tg : Nat → Nat) (W : Nat) : Prop := SH σ tg ∧ VO k σ W ∧ ∀ t, vok k t = true → tg (vrow σ t W) = t ∧ vrow σ t W ∈ σ.1 ∧ σ.2.2.1 t (vo σ (t / 32) W) = some (vrow σ t W)
theorem vt_of {k : Nat} {σ : pq_S} {tg : Nat → Nat} {W : Nat} (hSH : SH σ tg) (h : VO k σ W) : VT k σ tg W := ⟨hSH, h, fun t ht => by
  obtain ⟨e1, e2, e3⟩ := vok_c ht
  obtain ⟨hm, hk⟩ := h _ e2
  obtain ⟨w, r1, r2, r3, r4⟩ := hSH _ hm t (by rw [e1, hk])
  have e : vrow σ t W = w := (kd_e r1).symm
  rw [e]
  exact ⟨(r4 e3).2, r2, r1⟩⟩
section VTS
variable {σ : pq_S} {tg : Nat → Nat} {W : Nat}
theorem vo_in {f ci k a : Nat} (hSH : SH σ tg) (e : ftp f = (ci, k, 0)) (hm : a ∈ σ.1) (hk : σ.2.1 a = ci) : kd σ f a ∈ σ.1 ∧ σ.2.1 (kd σ f a) = k := by
  obtain ⟨w, r1, r2, r3⟩ := sh_o hSH f e hm hk
  rw [← kd_e r1]
  exact ⟨r2, r3⟩
theorem vt_10 (hSH : SH σ tg) (hL : W ∈ σ.1) (hK : σ.2.1 W = 10) : VT 10 σ tg W := vt_of hSH (fun c hc => by
  have hc : c ∈ [0, 1, 2, 3, 7, 9, 10] := of_decide_eq_true hc
  simp only [List.mem_cons, List.not_mem_nil, or_false] at hc
  have h2 := vo_in (f := 327) (ci := 10) (k := 2) hSH rfl hL hK
  rcases hc with e | e | e | e | e | e | e <;> subst e
  · exact vo_in (f := 328) (ci := 10) (k := 0) hSH rfl hL hK
  · exact vo_in (f := 330) (ci := 10) (k := 1) hSH rfl hL hK
  · exact h2
  · exact vo_in (f := 329) (ci := 10) (k := 3) hSH rfl hL hK
  · exact vo_in (f := 326) (ci := 10) (k := 7) hSH rfl hL hK
  · exact vo_in (f := 78) (ci := 2) (k := 9) hSH rfl h2.1 h2.2
  · exact ⟨hL, hK⟩)
theorem vt_4 (hSH : SH σ tg) (hL : W ∈ σ.1) (hK : σ.2.1 W = 4) : VT 4 σ tg W := vt_of hSH (fun c hc => by
  have hc : c ∈ [4, 6, 8] := of_decide_eq_true hc
  simp only [List.mem_cons, List.not_mem_nil, or_false] at hc
  rcases hc with e | e | e <;> subst e
  · exact ⟨hL, hK⟩
  · exact vo_in (f := 128) (ci := 4) (k := 6) hSH rfl hL hK
  · exact vo_in (f := 131) (ci := 4) (k := 8) hSH rfl hL hK)
theorem vt_12 (hSH : SH σ tg) (hL : W ∈ σ.1) (hK : σ.2.1 W = 12) : VT 12 σ tg W := vt_of hSH (fun c hc => by
  have hc : c = 12 := of_decide_eq_true hc
  subst hc
  exact ⟨hL, hK⟩)
end VTS
def vI (k : Nat) (σ : pq_S) (W : Nat) (I : Nat → Nat → Int32) : Nat → Int32 := fun f => if vcl k (f / 32) = true then I f (vo σ (f / 32) W) else 0
def vJ (k : Nat) (σ : pq_S) (W : Nat) (I : Nat → Nat → Int64) : Nat → Int64 := fun f => if vcl k (f / 32) = true then I f (vo σ (f / 32) W) else 0
def vR (k : Nat) (σ : pq_S) (W : Nat) (r : Nat → Nat → Int32) : Nat → Nat → Int32 := fun t => if vok k t = true then r (vrow σ t W) else fun _ => 0
def vL (k : Nat) (σ : pq_S) (W : Nat) (r : Nat → Nat → Int64) : Nat → Nat → Int64 := fun t => if vok k t = true then r (vrow σ t W) else fun _ => 0
def vQ (k : Nat) (σ : pq_S) (W : Nat) (r : Nat → Nat → Option Nat) : Nat → Nat → Option Nat := fun t => if vok k t = true then r (vrow σ t W) else fun _ => none
def FR (k : Nat) (tg : Nat → Nat) (σ : pq_S) (W : Nat) (μ μ1 : pq_M) : Prop := (∀ f a, f / 32 ≠ 5 → (vcl k (f / 32) = true → a ≠ vo σ (f / 32) W) → μ1.1 f a = μ.1 f a) ∧ (∀ f a, f / 32 ≠ 5 → (vcl k (f / 32) = true → a ≠ vo σ (f / 32) W) → μ1.2.1 f a = μ.2.1 f a) ∧ (∀ q, tg q / 32 ≠ 5 → (∀ t, vok k t = true → q ≠ vrow σ t W) → μ1.2.2.1 q = μ.2.2.1 q) ∧ (∀ q, tg q / 32 ≠ 5 → (∀ t, vok k t = true → q ≠ vrow σ t W) → μ1.2.2.2.1 q = μ.2.2.2.1 q) ∧ ∀ q, tg q / 32 ≠ 5 → (∀ t, vok k t = true → q ≠ vrow σ t W) → μ1.2.2.2.2 q = μ.2.2.2.2 q
/-- two trees that are apart -/
def AP (k : Nat) (tg : Nat → Nat) (σ : pq_S) (M N : Nat) : Prop := VT k σ tg M ∧ VT k σ tg N ∧ (∀ c, vcl k c = true → vo σ c N ≠ vo σ c M) ∧ ∀ t, vok k t = true → vrow σ t N ≠ vrow σ t M
theorem ap_sym {k : Nat} {tg : Nat → Nat} {σ : pq_S} {M N : Nat} (h : AP k tg σ M N) : AP k tg σ N M := ⟨h.2.1, h.1, fun c hc e => h.2.2.1 c hc e.symm, fun t ht e => h.2.2.2 t ht e.symm⟩
def tI (σ : pq_S) (I : Nat → Nat → Int32) : Nat → Nat → Int32 := fun f w => if w ∈ σ.1 ∧ σ.2.1 w = 8 ∧ f / 32 = 8 then I f w else 0
def tR (σ : pq_S) (r : Nat → Nat → Int32) : Nat → Nat → Nat → Int32 := fun t w => if w ∈ σ.1 ∧ σ.2.1 w = 8 ∧ (ftp t).1 = 8 then r (kd σ t w) else fun _ => 0
section VWS
variable {k : Nat} {σ : pq_S} {tg : Nat → Nat} {W M N f a w t : Nat} {μ : pq_M}
variable {I I0 I1 I2 : Nat → Nat → Int32} {J J0 J1 J2 : Nat → Nat → Int64} {r r0 r1 r2 : Nat → Nat → Int32} {l l0 l1 l2 : Nat → Nat → Int64} {q q0 q1 q2 : Nat → Nat → Option Nat}
theorem vI_e (hO : a = vo σ (f / 32) W) (hc : vcl k (f / 32) = true) : I f a = vI k σ W I f := by unfold vI; rw [if_pos hc, hO]
theorem vJ_e (hO : a = vo σ (f / 32) W) (hc : vcl k (f / 32) = true) : J f a = vJ k σ W J f := by unfold vJ; rw [if_pos hc, hO]
theorem vI_st {v : Int32} (hO : a = vo σ (f / 32) W) (hc : vcl k (f / 32) = true) (e : I1 = pq_u I f a v) : vI k σ W I1 = va_up (vI k σ W I) f v := by
  funext g
  unfold vI
  by_cases hg : g = f
  · subst hg; rw [va_up_self, if_pos hc, e, ← hO, pq_us]
  · rw [va_up_ne _ _ hg, e, pq_uf _ _ _ hg]
theorem vJ_st {v : Int64} (hO : a = vo σ (f / 32) W) (hc : vcl k (f / 32) = true) (e : J1 = pq_u J f a v) : vJ k σ W J1 = va_up (vJ k σ W J) f v := by
  funext g
  unfold vJ
  by_cases hg : g = f
  · subst hg; rw [va_up_self, if_pos hc, e, ← hO, pq_us]
  · rw [va_up_ne _ _ hg, e, pq_uf _ _ _ hg]
theorem vR_r {z : Int32} {i : Nat} (hO : w = vrow σ t W) (hv : vok k t = true) (e : z = r w i) : z = vR k σ W r t i := by unfold vR; rw [if_pos hv, ← hO]; exact e
theorem vL_r {z : Int64} {i : Nat} (hO : w = vrow σ t W) (hv : vok k t = true) (e : z = l w i) : z = vL k σ W l t i := by unfold vL; rw [if_pos hv, ← hO]; exact e
theorem vQ_r {z : Option Nat} {i : Nat} (hO : w = vrow σ t W) (hv : vok k t = true) (e : z = q w i) : z = vQ k σ W q t i := by unfold vQ; rw [if_pos hv, ← hO]; exact e
theorem vrow_ne (hVT : VT k σ tg W) {t t1 : Nat} (h : vok k t = true) (h1 : vok k t1 = true) (hn : t1 ≠ t) : vrow σ t1 W ≠ vrow σ t W := fun e => hn (by rw [← (hVT.2.2 t1 h1).1, e, (hVT.2.2 t h).1])
theorem vR_w {g : Nat → Int32} (hVT : VT k σ tg W) (hO : w = vrow σ t W) (hv : vok k t = true) (e : r1 = va_up r w g) : vR k σ W r1 = va_up (vR k σ W r) t g := by
  funext t1
  unfold vR
  by_cases h : t1 = t
  · subst h; rw [va_up_self, if_pos hv, e, ← hO, va_up_self]
  · rw [va_up_ne _ _ h]
    split
    · next h1 => rw [e, hO, va_up_ne _ _ (vrow_ne hVT hv h1 h)]
    · rfl
theorem vL_w {g : Nat → Int64} (hVT : VT k σ tg W) (hO : w = vrow σ t W) (hv : vok k t = true) (e : l1 = va_up l w g) : vL k σ W l1 = va_up (vL k σ W l) t g := by
  funext t1
  unfold vL
  by_cases h : t1 = t
  · subst h; rw [va_up_self, if_pos hv, e, ← hO, va_up_self]
  · rw [va_up_ne _ _ h]
    split
    · next h1 => rw [e, hO, va_up_ne _ _ (vrow_ne hVT hv h1 h)]
    · rfl
theorem vQ_w {g : Nat → Option Nat} (hVT : VT k σ tg W) (hO : w = vrow σ t W) (hv : vok k t = true) (e : q1 = va_up q w g) : vQ k σ W q1 = va_up (vQ k σ W q) t g := by
  funext t1
  unfold vQ
  by_cases h : t1 = t
  · subst h; rw [va_up_self, if_pos hv, e, ← hO, va_up_self]
  · rw [va_up_ne _ _ h]
    split
    · next h1 => rw [e, hO, va_up_ne _ _ (vrow_ne hVT hv h1 h)]
    · rfl
theorem vR_i (hO : w = vrow σ t W) (hv : vok k t = true) : r w = vR k σ W r t := by unfold vR; rw [if_pos hv, ← hO]
theorem vL_i (hO : w = vrow σ t W) (hv : vok k t = true) : l w = vL k σ W l t := by unfold vL; rw [if_pos hv, ← hO]
theorem vQ_i (hO : w = vrow σ t W) (hv : vok k t = true) : q w = vQ k σ W q t := by unfold vQ; rw [if_pos hv, ← hO]
theorem vR_st {n : Nat} {v : Int32} (hVT : VT k σ tg W) (hO : w = vrow σ t W) (hv : vok k t = true) (e : r1 = va_up r w (upd (r w) n v)) : vR k σ W r1 = va_up (vR k σ W r) t (upd (vR k σ W r t) n v) := by rw [← vR_i hO hv]; exact vR_w hVT hO hv e
theorem vL_st {n : Nat} {v : Int64} (hVT : VT k σ tg W) (hO : w = vrow σ t W) (hv : vok k t = true) (e : l1 = va_up l w (vp_updL (l w) n v)) : vL k σ W l1 = va_up (vL k σ W l) t (vp_updL (vL k σ W l t) n v) := by rw [← vL_i hO hv]; exact vL_w hVT hO hv e
theorem vQ_st {n : Nat} {v : Option Nat} (hVT : VT k σ tg W) (hO : w = vrow σ t W) (hv : vok k t = true) (e : q1 = va_up q w (va_up (q w) n v)) : vQ k σ W q1 = va_up (vQ k σ W q) t (va_up (vQ k σ W q t) n v) := by rw [← vQ_i hO hv]; exact vQ_w hVT hO hv e
theorem vR_cp {g : Nat → Int32} {b sp n : Nat} (hVT : VT k σ tg W) (hO : w = vrow σ t W) (hv : vok k t = true) (hg : r b = g) (e : r1 = va_up r w (va_cpy (r b) (r w) sp 0 n)) : vR k σ W r1 = va_up (vR k σ W r) t (va_cpy g (vR k σ W r t) sp 0 n) := by rw [← vR_i hO hv, ← hg]; exact vR_w hVT hO hv e
theorem vL_cp {g : Nat → Int64} {b sp n : Nat} (hVT : VT k σ tg W) (hO : w = vrow σ t W) (hv : vok k t = true) (hg : l b = g) (e : l1 = va_up l w (va_cpy (l b) (l w) sp 0 n)) : vL k σ W l1 = va_up (vL k σ W l) t (va_cpy g (vL k σ W l t) sp 0 n) := by rw [← vL_i hO hv, ← hg]; exact vL_w hVT hO hv e
theorem vR_fl {v : Int32} {n : Nat} (hVT : VT k σ tg W) (hO : w = vrow σ t W) (hv : vok k t = true) (e : r1 = va_up r w (fil v n (r w))) : vR k σ W r1 = va_up (vR k σ W r) t (fil v n (vR k σ W r t)) := by rw [← vR_i hO hv]; exact vR_w hVT hO hv e
/-! what is outside stands -/
theorem fr_rf : FR k tg σ W μ μ := ⟨fun _ _ _ _ => rfl, fun _ _ _ _ => rfl, fun _ _ _ => rfl, fun _ _ _ => rfl, fun _ _ _ => rfl⟩
theorem fr_tr {μ1 μ2 : pq_M} (h : FR k tg σ W μ μ1) (h1 : FR k tg σ W μ1 μ2) : FR k tg σ W μ μ2 := ⟨fun f a x y => (h1.1 f a x y).trans (h.1 f a x y), fun f a x y => (h1.2.1 f a x y).trans (h.2.1 f a x y), fun f x y => (h1.2.2.1 f x y).trans (h.2.2.1 f x y), fun f x y => (h1.2.2.2.1 f x y).trans (h.2.2.2.1 f x y), fun f x y => (h1.2.2.2.2 f x y).trans (h.2.2.2.2 f x y)⟩
theorem pq_uN {α : Type} {I : Nat → Nat → α} {f a g b : Nat} {v : α} (h : g = f → b ≠ a) : pq_u I f a v g b = I g b := by
  by_cases hg : g = f
  · subst hg; exact pq_ua _ _ _ _ (h rfl)
  · rw [pq_uf _ _ _ hg]
theorem fr_I {v : Int32} (h : FR k tg σ W μ (I1, J1, r1, l1, q1)) (hO : a = vo σ (f / 32) W) (hc : vcl k (f / 32) = true) (e : I2 = pq_u I1 f a v) : FR k tg σ W μ (I2, J1, r1, l1, q1) := by
  subst e
  refine ⟨fun g b x y => ?_, h.2⟩
  show pq_u I1 f a v g b = _
  rw [pq_uN (fun eg => by subst eg; rw [hO]; exact y hc)]
  exact h.1 g b x y
theorem fr_J {v : Int64} (h : FR k tg σ W μ (I1, J1, r1, l1, q1)) (hO : a = vo σ (f / 32) W) (hc : vcl k (f / 32) = true) (e : J2 = pq_u J1 f a v) : FR k tg σ W μ (I1, J2, r1, l1, q1) := by
  subst e
  refine ⟨h.1, fun g b x y => ?_, h.2.2⟩
  show pq_u J1 f a v g b = _
  rw [pq_uN (fun eg => by subst eg; rw [hO]; exact y hc)]
  exact h.2.1 g b x y
theorem fr_I5 {v : Int32} (h : FR k tg σ W μ (I1, J1, r1, l1, q1)) (hc : f / 32 = 5) (e : I2 = pq_u I1 f a v) : FR k tg σ W μ (I2, J1, r1, l1, q1) := by
  subst e
  refine ⟨fun g b x y => ?_, h.2⟩
  show pq_u I1 f a v g b = _
  rw [pq_uN (fun eg => by subst eg; exact absurd hc x)]
  exact h.1 g b x y
theorem fr_R {g : Nat → Int32} (h : FR k tg σ W μ (I1, J1, r1, l1, q1)) (hO : w = vrow σ t W) (hv : vok k t = true) (e : r2 = va_up r1 w g) : FR k tg σ W μ (I1, J1, r2, l1, q1) := by
  subst e
  refine ⟨h.1, h.2.1, fun p x y => ?_, h.2.2.2⟩
  show va_up r1 w g p = _
  rw [va_up_ne _ _ (by rw [hO]; exact y t hv)]
  exact h.2.2.1 p x y
theorem fr_L {g : Nat → Int64} (h : FR k tg σ W μ (I1, J1, r1, l1, q1)) (hO : w = vrow σ t W) (hv : vok k t = true) (e : l2 = va_up l1 w g) : FR k tg σ W μ (I1, J1, r1, l2, q1) := by
  subst e
  refine ⟨h.1, h.2.1, h.2.2.1, fun p x y => ?_, h.2.2.2.2⟩
  show va_up l1 w g p = _
  rw [va_up_ne _ _ (by rw [hO]; exact y t hv)]
  exact h.2.2.2.1 p x y
theorem fr_Q {g : Nat → Option Nat} (h : FR k tg σ W μ (I1, J1, r1, l1, q1)) (hO : w = vrow σ t W) (hv : vok k t = true) (e : q2 = va_up q1 w g) : FR k tg σ W μ (I1, J1, r1, l1, q2) := by
  subst e
  refine ⟨h.1, h.2.1, h.2.2.1, h.2.2.2.1, fun p x y => ?_⟩
  show va_up q1 w g p = _
  rw [va_up_ne _ _ (by rw [hO]; exact y t hv)]
  exact h.2.2.2.2 p x y
theorem fr_R5 {g : Nat → Int32} (h : FR k tg σ W μ (I1, J1, r1, l1, q1)) (hT : tg w = t) (hc : t / 32 = 5) (e : r2 = va_up r1 w g) : FR k tg σ W μ (I1, J1, r2, l1, q1) := by
  subst e
  refine ⟨h.1, h.2.1, fun p x y => ?_, h.2.2.2⟩
  show va_up r1 w g p = _
  rw [va_up_ne _ _ (fun z => x (by rw [z, hT]; exact hc))]
  exact h.2.2.1 p x y
theorem fr_L5 {g : Nat → Int64} (h : FR k tg σ W μ (I1, J1, r1, l1, q1)) (hT : tg w = t) (hc : t / 32 = 5) (e : l2 = va_up l1 w g) : FR k tg σ W μ (I1, J1, r1, l2, q1) := by
  subst e
  refine ⟨h.1, h.2.1, h.2.2.1, fun p x y => ?_, h.2.2.2.2⟩
  show va_up l1 w g p = _
  rw [va_up_ne _ _ (fun z => x (by rw [z, hT]; exact hc))]
  exact h.2.2.2.1 p x y
/-! a tree that stands, read at a later version -/
theorem cI_e (h : FR k tg σ M (I0, J0, r0, l0, q0) (I1, J1, r1, l1, q1)) (hap : AP k tg σ M N) (hO : a = vo σ (f / 32) N) (hc : vcl k (f / 32) = true) : I1 f a = vI k σ N I0 f := by
  rw [show I1 f a = I0 f a from h.1 f a (vcl_5 hc) (fun _ => by rw [hO]; exact hap.2.2.1 _ hc)]
  exact vI_e hO hc
theorem cJ_e (h : FR k tg σ M (I0, J0, r0, l0, q0) (I1, J1, r1, l1, q1)) (hap : AP k tg σ M N) (hO : a = vo σ (f / 32) N) (hc : vcl k (f / 32) = true) : J1 f a = vJ k σ N J0 f := by
  rw [show J1 f a = J0 f a from h.2.1 f a (vcl_5 hc) (fun _ => by rw [hO]; exact hap.2.2.1 _ hc)]
  exact vJ_e hO hc
theorem ap_row (hap : AP k tg σ M N) (hv : vok k t = true) : tg (vrow σ t N) / 32 ≠ 5 ∧ ∀ t1, vok k t1 = true → vrow σ t N ≠ vrow σ t1 M := by
  have h1 := (hap.2.1.2.2 t hv).1
  refine ⟨by rw [h1]; exact vcl_5 (vok_c hv).2.1, fun t1 ht1 e => ?_⟩
  have h2 := (hap.1.2.2 t1 ht1).1
  rw [← e, h1] at h2
  subst h2
  exact hap.2.2.2 _ hv e
theorem cR_r {z : Int32} {i : Nat} (h : FR k tg σ M (I0, J0, r0, l0, q0) (I1, J1, r1, l1, q1)) (hap : AP k tg σ M N) (hO : w = vrow σ t N) (hv : vok k t = true) (e : z = r1 w i) : z = vR k σ N r0 t i := by
  have p := ap_row hap hv
  rw [show r1 w = r0 w from h.2.2.1 w (by rw [hO]; exact p.1) (by rw [hO]; exact p.2)] at e
  exact vR_r hO hv e
theorem cL_r {z : Int64} {i : Nat} (h : FR k tg σ M (I0, J0, r0, l0, q0) (I1, J1, r1, l1, q1)) (hap : AP k tg σ M N) (hO : w = vrow σ t N) (hv : vok k t = true) (e : z = l1 w i) : z = vL k σ N l0 t i := by
  have p := ap_row hap hv
  rw [show l1 w = l0 w from h.2.2.2.1 w (by rw [hO]; exact p.1) (by rw [hO]; exact p.2)] at e
  exact vL_r hO hv e
theorem cQ_r {z : Option Nat} {i : Nat} (h : FR k tg σ M (I0, J0, r0, l0, q0) (I1, J1, r1, l1, q1)) (hap : AP k tg σ M N) (hO : w = vrow σ t N) (hv : vok k t = true) (e : z = q1 w i) : z = vQ k σ N q0 t i := by
  have p := ap_row hap hv
  rw [show q1 w = q0 w from h.2.2.2.2 w (by rw [hO]; exact p.1) (by rw [hO]; exact p.2)] at e
  exact vQ_r hO hv e
theorem fr_cI (h : FR k tg σ M (I0, J0, r0, l0, q0) (I1, J1, r1, l1, q1)) (hap : AP k tg σ M N) : vI k σ N I1 = vI k σ N I0 := by
  funext f
  unfold vI
  split
  · next hc => exact h.1 f _ (vcl_5 hc) (fun _ => hap.2.2.1 _ hc)
  · rfl
theorem fr_cJ (h : FR k tg σ M (I0, J0, r0, l0, q0) (I1, J1, r1, l1, q1)) (hap : AP k tg σ M N) : vJ k σ N J1 = vJ k σ N J0 := by
  funext f
  unfold vJ
  split
  · next hc => exact h.2.1 f _ (vcl_5 hc) (fun _ => hap.2.2.1 _ hc)
  · rfl
theorem fr_cR (h : FR k tg σ M (I0, J0, r0, l0, q0) (I1, J1, r1, l1, q1)) (hap : AP k tg σ M N) : vR k σ N r1 = vR k σ N r0 := by
  funext t
  unfold vR
  split
  · next hv => exact h.2.2.1 _ (ap_row hap hv).1 (ap_row hap hv).2
  · rfl
theorem fr_cL (h : FR k tg σ M (I0, J0, r0, l0, q0) (I1, J1, r1, l1, q1)) (hap : AP k tg σ M N) : vL k σ N l1 = vL k σ N l0 := by
  funext t
  unfold vL
  split
  · next hv => exact h.2.2.2.1 _ (ap_row hap hv).1 (ap_row hap hv).2
  · rfl
theorem fr_cQ (h : FR k tg σ M (I0, J0, r0, l0, q0) (I1, J1, r1, l1, q1)) (hap : AP k tg σ M N) : vQ k σ N q1 = vQ k σ N q0 := by
  funext t
  unfold vQ
  split
  · next hv => exact h.2.2.2.2 _ (ap_row hap hv).1 (ap_row hap hv).2
  · rfl
/-! texts, outside the Worlds -/
theorem tI_e (h : FR 10 tg σ M (I0, J0, r0, l0, q0) (I1, J1, r1, l1, q1)) (hL : w ∈ σ.1) (hK : σ.2.1 w = 8) (hf : f / 32 = 8) : I1 f w = tI σ I0 f w := by
  unfold tI
  rw [if_pos ⟨hL, hK, hf⟩]
  exact h.1 f w (by rw [hf]; decide) (fun hc => by rw [hf] at hc; exact absurd hc (by decide))
theorem tx_row (hVT : VT 10 σ tg M) (hL : w ∈ σ.1) (hK : σ.2.1 w = 8) (ht : (ftp t).1 = 8) : tg (kd σ t w) / 32 ≠ 5 ∧ ∀ t1, vok 10 t1 = true → kd σ t w ≠ vrow σ t1 M := by
  have hc : t / 32 = 8 := by rcases ftp_c t with e | e <;> omega
  have h13 : 13 ≤ (ftp t).2.1 := by
    have : ∀ t, t < 416 → (ftp t).1 = 8 → 13 ≤ (ftp t).2.1 := by decide +kernel
    exact this t (by omega) ht
  obtain ⟨v, e1, e2, e3, e4⟩ := hVT.1 w hL t (by rw [ht, hK])
  have e5 : kd σ t w = v := (kd_e e1).symm
  have e6 := (e4 h13).2
  rw [e5]
  refine ⟨by rw [e6, hc]; decide, fun t1 ht1 e => ?_⟩
  have h2 := (hVT.2.2 t1 ht1).1
  rw [← e, e6] at h2
  have h3 := (vok_c ht1).2.1
  rw [← h2, hc] at h3
  exact absurd h3 (by decide)
theorem tR_r {z : Int32} {i p : Nat} (h : FR 10 tg σ M (I0, J0, r0, l0, q0) (I1, J1, r1, l1, q1)) (hVT : VT 10 σ tg M) (hL : w ∈ σ.1) (hK : σ.2.1 w = 8) (hR : σ.2.2.1 t w = some p) (_ : tg p = t) (ht : (ftp t).1 = 8) (e : z = r1 p i) : z = tR σ r0 t w i := by
  unfold tR
  rw [if_pos ⟨hL, hK, ht⟩]
  have x := tx_row hVT hL hK ht
  rw [kd_e hR, show r1 (kd σ t w) = r0 (kd σ t w) from h.2.2.1 _ x.1 x.2] at e
  exact e
theorem fr_tI (h : FR 10 tg σ M (I0, J0, r0, l0, q0) (I1, J1, r1, l1, q1)) (_ : VT 10 σ tg M) : tI σ I1 = tI σ I0 := by
  funext f w
  unfold tI
  split
  · next x => exact h.1 f w (by rw [x.2.2]; decide) (fun hc => by rw [x.2.2] at hc; exact absurd hc (by decide))
  · rfl
theorem fr_tR (h : FR 10 tg σ M (I0, J0, r0, l0, q0) (I1, J1, r1, l1, q1)) (hVT : VT 10 σ tg M) : tR σ r1 = tR σ r0 := by
  funext t w
  unfold tR
  split
  · next x => exact h.2.2.1 _ (tx_row hVT x.1 x.2.1 x.2.2).1 (tx_row hVT x.1 x.2.1 x.2.2).2
  · rfl
end VWS
