section RW2
variable {X : XT} {L9 : Nat} {xs : Nat → Int32}
theorem d_N_isCell_0 : decode mi_N_isCell.2.1 0 = .ok (.aload_n 0, 1) := by decide +kernel
theorem d_N_isCell_1 : decode mi_N_isCell.2.1 1 = .ok (.iload_n 1, 1) := by decide +kernel
theorem d_N_isCell_2 : decode mi_N_isCell.2.1 2 = .ok (.invokevirtual 53, 3) := by decide +kernel
theorem d_N_isCell_5 : decode mi_N_isCell.2.1 5 = .ok (.bipush (99), 2) := by decide +kernel
theorem d_N_isCell_7 : decode mi_N_isCell.2.1 7 = .ok (.if_icmp .ne (7), 3) := by decide +kernel
theorem d_N_isCell_10 : decode mi_N_isCell.2.1 10 = .ok (.iconst (1), 1) := by decide +kernel
theorem d_N_isCell_11 : decode mi_N_isCell.2.1 11 = .ok (.goto (4), 3) := by decide +kernel
theorem d_N_isCell_14 : decode mi_N_isCell.2.1 14 = .ok (.iconst (0), 1) := by decide +kernel
theorem d_N_isCell_15 : decode mi_N_isCell.2.1 15 = .ok (.ireturn, 1) := by decide +kernel
theorem s_N_isCell_2 : kCall TT cl6 X mi_N_isCell 2 3 mi_N_kindOf 2 2 1 := k_virtual (index := 53) d_N_isCell_2 cs_N_kindOf rfl rfl t_2_178 t_2_179 t_2_180
theorem d_N_isGate_0 : decode mi_N_isGate.2.1 0 = .ok (.aload_n 0, 1) := by decide +kernel
theorem d_N_isGate_1 : decode mi_N_isGate.2.1 1 = .ok (.iload_n 1, 1) := by decide +kernel
theorem d_N_isGate_2 : decode mi_N_isGate.2.1 2 = .ok (.invokevirtual 53, 3) := by decide +kernel
theorem d_N_isGate_5 : decode mi_N_isGate.2.1 5 = .ok (.istore_n 2, 1) := by decide +kernel
theorem d_N_isGate_6 : decode mi_N_isGate.2.1 6 = .ok (.iload_n 2, 1) := by decide +kernel
theorem d_N_isGate_7 : decode mi_N_isGate.2.1 7 = .ok (.bipush (105), 2) := by decide +kernel
theorem d_N_isGate_9 : decode mi_N_isGate.2.1 9 = .ok (.if_icmp .eq (13), 3) := by decide +kernel
theorem d_N_isGate_12 : decode mi_N_isGate.2.1 12 = .ok (.iload_n 2, 1) := by decide +kernel
theorem d_N_isGate_13 : decode mi_N_isGate.2.1 13 = .ok (.bipush (99), 2) := by decide +kernel
theorem d_N_isGate_15 : decode mi_N_isGate.2.1 15 = .ok (.if_icmp .eq (7), 3) := by decide +kernel
theorem d_N_isGate_18 : decode mi_N_isGate.2.1 18 = .ok (.iconst (1), 1) := by decide +kernel
theorem d_N_isGate_19 : decode mi_N_isGate.2.1 19 = .ok (.goto (4), 3) := by decide +kernel
theorem d_N_isGate_22 : decode mi_N_isGate.2.1 22 = .ok (.iconst (0), 1) := by decide +kernel
theorem d_N_isGate_23 : decode mi_N_isGate.2.1 23 = .ok (.ireturn, 1) := by decide +kernel
theorem s_N_isGate_2 : kCall TT cl6 X mi_N_isGate 2 3 mi_N_kindOf 2 2 1 := k_virtual (index := 53) d_N_isGate_2 cs_N_kindOf rfl rfl t_2_178 t_2_179 t_2_180
theorem d_N_isInput_0 : decode mi_N_isInput.2.1 0 = .ok (.aload_n 0, 1) := by decide +kernel
theorem d_N_isInput_1 : decode mi_N_isInput.2.1 1 = .ok (.iload_n 1, 1) := by decide +kernel
theorem d_N_isInput_2 : decode mi_N_isInput.2.1 2 = .ok (.invokevirtual 53, 3) := by decide +kernel
theorem d_N_isInput_5 : decode mi_N_isInput.2.1 5 = .ok (.bipush (105), 2) := by decide +kernel
theorem d_N_isInput_7 : decode mi_N_isInput.2.1 7 = .ok (.if_icmp .ne (7), 3) := by decide +kernel
theorem d_N_isInput_10 : decode mi_N_isInput.2.1 10 = .ok (.iconst (1), 1) := by decide +kernel
theorem d_N_isInput_11 : decode mi_N_isInput.2.1 11 = .ok (.goto (4), 3) := by decide +kernel
theorem d_N_isInput_14 : decode mi_N_isInput.2.1 14 = .ok (.iconst (0), 1) := by decide +kernel
theorem d_N_isInput_15 : decode mi_N_isInput.2.1 15 = .ok (.ireturn, 1) := by decide +kernel
theorem s_N_isInput_2 : kCall TT cl6 X mi_N_isInput 2 3 mi_N_kindOf 2 2 1 := k_virtual (index := 53) d_N_isInput_2 cs_N_kindOf rfl rfl t_2_178 t_2_179 t_2_180
theorem d_N_kindOf_0 : decode mi_N_kindOf.2.1 0 = .ok (.iload_n 1, 1) := by decide +kernel
theorem d_N_kindOf_1 : decode mi_N_kindOf.2.1 1 = .ok (.ifCond .lt (21), 3) := by decide +kernel
theorem d_N_kindOf_4 : decode mi_N_kindOf.2.1 4 = .ok (.iload_n 1, 1) := by decide +kernel
theorem d_N_kindOf_5 : decode mi_N_kindOf.2.1 5 = .ok (.aload_n 0, 1) := by decide +kernel
theorem d_N_kindOf_6 : decode mi_N_kindOf.2.1 6 = .ok (.getfield 9, 3) := by decide +kernel
theorem d_N_kindOf_9 : decode mi_N_kindOf.2.1 9 = .ok (.arraylength, 1) := by decide +kernel
theorem d_N_kindOf_10 : decode mi_N_kindOf.2.1 10 = .ok (.if_icmp .ge (12), 3) := by decide +kernel
theorem d_N_kindOf_13 : decode mi_N_kindOf.2.1 13 = .ok (.aload_n 0, 1) := by decide +kernel
theorem d_N_kindOf_14 : decode mi_N_kindOf.2.1 14 = .ok (.getfield 9, 3) := by decide +kernel
theorem d_N_kindOf_17 : decode mi_N_kindOf.2.1 17 = .ok (.iload_n 1, 1) := by decide +kernel
theorem d_N_kindOf_18 : decode mi_N_kindOf.2.1 18 = .ok (.caload, 1) := by decide +kernel
theorem d_N_kindOf_19 : decode mi_N_kindOf.2.1 19 = .ok (.goto (5), 3) := by decide +kernel
theorem d_N_kindOf_22 : decode mi_N_kindOf.2.1 22 = .ok (.bipush (105), 2) := by decide +kernel
theorem d_N_kindOf_24 : decode mi_N_kindOf.2.1 24 = .ok (.ireturn, 1) := by decide +kernel
theorem s_N_kindOf_6 : kGet TT cl6 X mi_N_kindOf 6 1 0 := k_get (index := 9) cK_1 d_N_kindOf_6 (by decide) ⟨"Miterhouse$Nets", Or.inl t_1_44, Or.inl rfl⟩
theorem s_N_kindOf_14 : kGet TT cl6 X mi_N_kindOf 14 1 0 := k_get (index := 9) cK_1 d_N_kindOf_14 (by decide) ⟨"Miterhouse$Nets", Or.inl t_1_44, Or.inl rfl⟩
theorem d_N_nameOf_0 : decode mi_N_nameOf.2.1 0 = .ok (.aload_n 0, 1) := by decide +kernel
theorem d_N_nameOf_1 : decode mi_N_nameOf.2.1 1 = .ok (.getfield 28, 3) := by decide +kernel
theorem d_N_nameOf_4 : decode mi_N_nameOf.2.1 4 = .ok (.iload_n 1, 1) := by decide +kernel
theorem d_N_nameOf_5 : decode mi_N_nameOf.2.1 5 = .ok (.invokestatic 57, 3) := by decide +kernel
theorem d_N_nameOf_8 : decode mi_N_nameOf.2.1 8 = .ok (.ireturn, 1) := by decide +kernel
theorem s_N_nameOf_1 : kGet TT cl6 X mi_N_nameOf 1 1 5 := k_get (index := 28) cK_1 d_N_nameOf_1 (by decide) ⟨"Miterhouse$Nets", Or.inl t_1_49, Or.inl rfl⟩
theorem s_N_nameOf_5 : kCall TT cl6 X mi_N_nameOf 5 3 mi_M_numberAt 4 2 0 := k_staticN (index := 57) d_N_nameOf_5 cs_M_numberAt rfl t_1_137 t_1_138
theorem d_N_oneOfPins_0 : decode mi_N_oneOfPins.2.1 0 = .ok (.aload_n 0, 1) := by decide +kernel
theorem d_N_oneOfPins_1 : decode mi_N_oneOfPins.2.1 1 = .ok (.getfield 19, 3) := by decide +kernel
theorem d_N_oneOfPins_4 : decode mi_N_oneOfPins.2.1 4 = .ok (.iload_n 1, 1) := by decide +kernel
theorem d_N_oneOfPins_5 : decode mi_N_oneOfPins.2.1 5 = .ok (.invokestatic 57, 3) := by decide +kernel
theorem d_N_oneOfPins_8 : decode mi_N_oneOfPins.2.1 8 = .ok (.ireturn, 1) := by decide +kernel
theorem s_N_oneOfPins_1 : kGet TT cl6 X mi_N_oneOfPins 1 1 2 := k_get (index := 19) cK_1 d_N_oneOfPins_1 (by decide) ⟨"Miterhouse$Nets", Or.inl t_1_46, Or.inl rfl⟩
theorem s_N_oneOfPins_5 : kCall TT cl6 X mi_N_oneOfPins 5 3 mi_M_numberAt 4 2 0 := k_staticN (index := 57) d_N_oneOfPins_5 cs_M_numberAt rfl t_1_137 t_1_138
theorem d_N_outputAt_0 : decode mi_N_outputAt.2.1 0 = .ok (.aload_n 0, 1) := by decide +kernel
theorem d_N_outputAt_1 : decode mi_N_outputAt.2.1 1 = .ok (.getfield 31, 3) := by decide +kernel
theorem d_N_outputAt_4 : decode mi_N_outputAt.2.1 4 = .ok (.iload_n 1, 1) := by decide +kernel
theorem d_N_outputAt_5 : decode mi_N_outputAt.2.1 5 = .ok (.iconst (4), 1) := by decide +kernel
theorem d_N_outputAt_6 : decode mi_N_outputAt.2.1 6 = .ok (.imul, 1) := by decide +kernel
theorem d_N_outputAt_7 : decode mi_N_outputAt.2.1 7 = .ok (.iload_n 2, 1) := by decide +kernel
theorem d_N_outputAt_8 : decode mi_N_outputAt.2.1 8 = .ok (.iadd, 1) := by decide +kernel
theorem d_N_outputAt_9 : decode mi_N_outputAt.2.1 9 = .ok (.invokestatic 57, 3) := by decide +kernel
theorem d_N_outputAt_12 : decode mi_N_outputAt.2.1 12 = .ok (.ireturn, 1) := by decide +kernel
theorem s_N_outputAt_1 : kGet TT cl6 X mi_N_outputAt 1 1 6 := k_get (index := 31) cK_1 d_N_outputAt_1 (by decide) ⟨"Miterhouse$Nets", Or.inl t_1_50, Or.inl rfl⟩
theorem s_N_outputAt_9 : kCall TT cl6 X mi_N_outputAt 9 3 mi_M_numberAt 4 2 0 := k_staticN (index := 57) d_N_outputAt_9 cs_M_numberAt rfl t_1_137 t_1_138
theorem d_N_outputsOf_0 : decode mi_N_outputsOf.2.1 0 = .ok (.aload_n 0, 1) := by decide +kernel
theorem d_N_outputsOf_1 : decode mi_N_outputsOf.2.1 1 = .ok (.getfield 34, 3) := by decide +kernel
theorem d_N_outputsOf_4 : decode mi_N_outputsOf.2.1 4 = .ok (.iload_n 1, 1) := by decide +kernel
theorem d_N_outputsOf_5 : decode mi_N_outputsOf.2.1 5 = .ok (.invokestatic 57, 3) := by decide +kernel
theorem d_N_outputsOf_8 : decode mi_N_outputsOf.2.1 8 = .ok (.ireturn, 1) := by decide +kernel
theorem s_N_outputsOf_1 : kGet TT cl6 X mi_N_outputsOf 1 1 7 := k_get (index := 34) cK_1 d_N_outputsOf_1 (by decide) ⟨"Miterhouse$Nets", Or.inl t_1_51, Or.inl rfl⟩
theorem s_N_outputsOf_5 : kCall TT cl6 X mi_N_outputsOf 5 3 mi_M_numberAt 4 2 0 := k_staticN (index := 57) d_N_outputsOf_5 cs_M_numberAt rfl t_1_137 t_1_138
theorem d_N_ownerOf_0 : decode mi_N_ownerOf.2.1 0 = .ok (.aload_n 0, 1) := by decide +kernel
theorem d_N_ownerOf_1 : decode mi_N_ownerOf.2.1 1 = .ok (.getfield 15, 3) := by decide +kernel
theorem d_N_ownerOf_4 : decode mi_N_ownerOf.2.1 4 = .ok (.iload_n 1, 1) := by decide +kernel
theorem d_N_ownerOf_5 : decode mi_N_ownerOf.2.1 5 = .ok (.invokestatic 57, 3) := by decide +kernel
theorem d_N_ownerOf_8 : decode mi_N_ownerOf.2.1 8 = .ok (.ireturn, 1) := by decide +kernel
theorem s_N_ownerOf_1 : kGet TT cl6 X mi_N_ownerOf 1 1 1 := k_get (index := 15) cK_1 d_N_ownerOf_1 (by decide) ⟨"Miterhouse$Nets", Or.inl t_1_45, Or.inl rfl⟩
theorem s_N_ownerOf_5 : kCall TT cl6 X mi_N_ownerOf 5 3 mi_M_numberAt 4 2 0 := k_staticN (index := 57) d_N_ownerOf_5 cs_M_numberAt rfl t_1_137 t_1_138
theorem d_N_sourceAtLine_0 : decode mi_N_sourceAtLine.2.1 0 = .ok (.iconst (0), 1) := by decide +kernel
theorem d_N_sourceAtLine_1 : decode mi_N_sourceAtLine.2.1 1 = .ok (.istore_n 2, 1) := by decide +kernel
theorem d_N_sourceAtLine_2 : decode mi_N_sourceAtLine.2.1 2 = .ok (.iload_n 2, 1) := by decide +kernel
theorem d_N_sourceAtLine_3 : decode mi_N_sourceAtLine.2.1 3 = .ok (.aload_n 0, 1) := by decide +kernel
theorem d_N_sourceAtLine_4 : decode mi_N_sourceAtLine.2.1 4 = .ok (.invokevirtual 96, 3) := by decide +kernel
theorem d_N_sourceAtLine_7 : decode mi_N_sourceAtLine.2.1 7 = .ok (.if_icmp .ge (20), 3) := by decide +kernel
theorem d_N_sourceAtLine_10 : decode mi_N_sourceAtLine.2.1 10 = .ok (.aload_n 0, 1) := by decide +kernel
theorem d_N_sourceAtLine_11 : decode mi_N_sourceAtLine.2.1 11 = .ok (.iload_n 2, 1) := by decide +kernel
theorem d_N_sourceAtLine_12 : decode mi_N_sourceAtLine.2.1 12 = .ok (.invokevirtual 100, 3) := by decide +kernel
theorem d_N_sourceAtLine_15 : decode mi_N_sourceAtLine.2.1 15 = .ok (.iload_n 1, 1) := by decide +kernel
theorem d_N_sourceAtLine_16 : decode mi_N_sourceAtLine.2.1 16 = .ok (.if_icmp .ne (5), 3) := by decide +kernel
theorem d_N_sourceAtLine_19 : decode mi_N_sourceAtLine.2.1 19 = .ok (.iload_n 2, 1) := by decide +kernel
theorem d_N_sourceAtLine_20 : decode mi_N_sourceAtLine.2.1 20 = .ok (.ireturn, 1) := by decide +kernel
theorem d_N_sourceAtLine_21 : decode mi_N_sourceAtLine.2.1 21 = .ok (.iinc 2 (1), 3) := by decide +kernel
theorem d_N_sourceAtLine_24 : decode mi_N_sourceAtLine.2.1 24 = .ok (.goto (-22), 3) := by decide +kernel
theorem d_N_sourceAtLine_27 : decode mi_N_sourceAtLine.2.1 27 = .ok (.iconst (-1), 1) := by decide +kernel
theorem d_N_sourceAtLine_28 : decode mi_N_sourceAtLine.2.1 28 = .ok (.ireturn, 1) := by decide +kernel
theorem s_N_sourceAtLine_4 : kCall TT cl6 X mi_N_sourceAtLine 4 3 mi_N_sourceCount 2 1 1 := k_virtual (index := 96) d_N_sourceAtLine_4 cs_N_sourceCount rfl rfl t_5_35 t_3_116 t_3_117
theorem s_N_sourceAtLine_12 : kCall TT cl6 X mi_N_sourceAtLine 12 3 mi_N_sourceLine 2 2 1 := k_virtual (index := 100) d_N_sourceAtLine_12 cs_N_sourceLine rfl rfl t_5_36 t_1_161 t_1_162
theorem d_N_sourceCount_0 : decode mi_N_sourceCount.2.1 0 = .ok (.aload_n 0, 1) := by decide +kernel
theorem d_N_sourceCount_1 : decode mi_N_sourceCount.2.1 1 = .ok (.getfield 50, 3) := by decide +kernel
theorem d_N_sourceCount_4 : decode mi_N_sourceCount.2.1 4 = .ok (.aload_n 0, 1) := by decide +kernel
theorem d_N_sourceCount_5 : decode mi_N_sourceCount.2.1 5 = .ok (.iconst (0), 1) := by decide +kernel
theorem d_N_sourceCount_6 : decode mi_N_sourceCount.2.1 6 = .ok (.invokevirtual 61, 3) := by decide +kernel
theorem d_N_sourceCount_9 : decode mi_N_sourceCount.2.1 9 = .ok (.iadd, 1) := by decide +kernel
theorem d_N_sourceCount_10 : decode mi_N_sourceCount.2.1 10 = .ok (.aload_n 0, 1) := by decide +kernel
theorem d_N_sourceCount_11 : decode mi_N_sourceCount.2.1 11 = .ok (.iconst (1), 1) := by decide +kernel
theorem d_N_sourceCount_12 : decode mi_N_sourceCount.2.1 12 = .ok (.invokevirtual 61, 3) := by decide +kernel
theorem d_N_sourceCount_15 : decode mi_N_sourceCount.2.1 15 = .ok (.iadd, 1) := by decide +kernel
theorem d_N_sourceCount_16 : decode mi_N_sourceCount.2.1 16 = .ok (.ireturn, 1) := by decide +kernel
theorem s_N_sourceCount_1 : kGet TT cl6 X mi_N_sourceCount 1 1 12 := k_get (index := 50) cK_1 d_N_sourceCount_1 (by decide) ⟨"Miterhouse$Nets", Or.inl t_1_62, Or.inl rfl⟩
theorem s_N_sourceCount_6 : kCall TT cl6 X mi_N_sourceCount 6 3 mi_N_cellsOf 2 2 1 := k_virtual (index := 61) d_N_sourceCount_6 cs_N_cellsOf rfl rfl t_2_216 t_2_192 t_2_193
theorem s_N_sourceCount_12 : kCall TT cl6 X mi_N_sourceCount 12 3 mi_N_cellsOf 2 2 1 := k_virtual (index := 61) d_N_sourceCount_12 cs_N_cellsOf rfl rfl t_2_216 t_2_192 t_2_193
theorem d_N_sourceLine_0 : decode mi_N_sourceLine.2.1 0 = .ok (.aload_n 0, 1) := by decide +kernel
theorem d_N_sourceLine_1 : decode mi_N_sourceLine.2.1 1 = .ok (.getfield 40, 3) := by decide +kernel
theorem d_N_sourceLine_4 : decode mi_N_sourceLine.2.1 4 = .ok (.iload_n 1, 1) := by decide +kernel
theorem d_N_sourceLine_5 : decode mi_N_sourceLine.2.1 5 = .ok (.invokestatic 57, 3) := by decide +kernel
theorem d_N_sourceLine_8 : decode mi_N_sourceLine.2.1 8 = .ok (.ireturn, 1) := by decide +kernel
theorem s_N_sourceLine_1 : kGet TT cl6 X mi_N_sourceLine 1 1 9 := k_get (index := 40) cK_1 d_N_sourceLine_1 (by decide) ⟨"Miterhouse$Nets", Or.inl t_1_53, Or.inl rfl⟩
theorem s_N_sourceLine_5 : kCall TT cl6 X mi_N_sourceLine 5 3 mi_M_numberAt 4 2 0 := k_staticN (index := 57) d_N_sourceLine_5 cs_M_numberAt rfl t_1_137 t_1_138
theorem d_N_twoOfPins_0 : decode mi_N_twoOfPins.2.1 0 = .ok (.aload_n 0, 1) := by decide +kernel
theorem d_N_twoOfPins_1 : decode mi_N_twoOfPins.2.1 1 = .ok (.getfield 22, 3) := by decide +kernel
theorem d_N_twoOfPins_4 : decode mi_N_twoOfPins.2.1 4 = .ok (.iload_n 1, 1) := by decide +kernel
theorem d_N_twoOfPins_5 : decode mi_N_twoOfPins.2.1 5 = .ok (.invokestatic 57, 3) := by decide +kernel
theorem d_N_twoOfPins_8 : decode mi_N_twoOfPins.2.1 8 = .ok (.ireturn, 1) := by decide +kernel
theorem s_N_twoOfPins_1 : kGet TT cl6 X mi_N_twoOfPins 1 1 3 := k_get (index := 22) cK_1 d_N_twoOfPins_1 (by decide) ⟨"Miterhouse$Nets", Or.inl t_1_47, Or.inl rfl⟩
theorem s_N_twoOfPins_5 : kCall TT cl6 X mi_N_twoOfPins 5 3 mi_M_numberAt 4 2 0 := k_staticN (index := 57) d_N_twoOfPins_5 cs_M_numberAt rfl t_1_137 t_1_138
theorem d_V_init_0 : decode mi_V_init.2.1 0 = .ok (.aload_n 0, 1) := by decide +kernel
theorem d_V_init_1 : decode mi_V_init.2.1 1 = .ok (.invokespecial 3, 3) := by decide +kernel
theorem d_V_init_4 : decode mi_V_init.2.1 4 = .ok (.aload_n 0, 1) := by decide +kernel
theorem d_V_init_5 : decode mi_V_init.2.1 5 = .ok (.aload_n 1, 1) := by decide +kernel
theorem d_V_init_6 : decode mi_V_init.2.1 6 = .ok (.putfield 9, 3) := by decide +kernel
theorem d_V_init_9 : decode mi_V_init.2.1 9 = .ok (.aload_n 0, 1) := by decide +kernel
theorem d_V_init_10 : decode mi_V_init.2.1 10 = .ok (.iconst (0), 1) := by decide +kernel
theorem d_V_init_11 : decode mi_V_init.2.1 11 = .ok (.bipush (14), 2) := by decide +kernel
theorem d_V_init_13 : decode mi_V_init.2.1 13 = .ok (.aload_n 1, 1) := by decide +kernel
theorem d_V_init_14 : decode mi_V_init.2.1 14 = .ok (.invokevirtual 15, 3) := by decide +kernel
theorem d_V_init_17 : decode mi_V_init.2.1 17 = .ok (.invokestatic 21, 3) := by decide +kernel
theorem d_V_init_20 : decode mi_V_init.2.1 20 = .ok (.invokestatic 27, 3) := by decide +kernel
theorem d_V_init_23 : decode mi_V_init.2.1 23 = .ok (.putfield 30, 3) := by decide +kernel
theorem d_V_init_26 : decode mi_V_init.2.1 26 = .ok (.aload_n 0, 1) := by decide +kernel
theorem d_V_init_27 : decode mi_V_init.2.1 27 = .ok (.aload_n 0, 1) := by decide +kernel
theorem d_V_init_28 : decode mi_V_init.2.1 28 = .ok (.getfield 30, 3) := by decide +kernel
theorem d_V_init_31 : decode mi_V_init.2.1 31 = .ok (.bipush (6), 2) := by decide +kernel
theorem d_V_init_33 : decode mi_V_init.2.1 33 = .ok (.if_icmp .le (15), 3) := by decide +kernel
theorem d_V_init_36 : decode mi_V_init.2.1 36 = .ok (.iconst (1), 1) := by decide +kernel
theorem d_V_init_37 : decode mi_V_init.2.1 37 = .ok (.aload_n 0, 1) := by decide +kernel
theorem d_V_init_38 : decode mi_V_init.2.1 38 = .ok (.getfield 30, 3) := by decide +kernel
theorem d_V_init_41 : decode mi_V_init.2.1 41 = .ok (.bipush (6), 2) := by decide +kernel
theorem d_V_init_43 : decode mi_V_init.2.1 43 = .ok (.isub, 1) := by decide +kernel
theorem d_V_init_44 : decode mi_V_init.2.1 44 = .ok (.ishl, 1) := by decide +kernel
theorem d_V_init_45 : decode mi_V_init.2.1 45 = .ok (.goto (4), 3) := by decide +kernel
theorem d_V_init_48 : decode mi_V_init.2.1 48 = .ok (.iconst (1), 1) := by decide +kernel
theorem d_V_init_49 : decode mi_V_init.2.1 49 = .ok (.putfield 34, 3) := by decide +kernel
theorem d_V_init_52 : decode mi_V_init.2.1 52 = .ok (.aload_n 0, 1) := by decide +kernel
theorem d_V_init_53 : decode mi_V_init.2.1 53 = .ok (.aload_n 0, 1) := by decide +kernel
theorem d_V_init_54 : decode mi_V_init.2.1 54 = .ok (.getfield 30, 3) := by decide +kernel
theorem d_V_init_57 : decode mi_V_init.2.1 57 = .ok (.bipush (6), 2) := by decide +kernel
theorem d_V_init_59 : decode mi_V_init.2.1 59 = .ok (.if_icmp .lt (9), 3) := by decide +kernel
theorem d_V_init_62 : decode mi_V_init.2.1 62 = .ok (.ldc2_w 37, 3) := by decide +kernel
theorem d_V_init_65 : decode mi_V_init.2.1 65 = .ok (.goto (13), 3) := by decide +kernel
theorem d_V_init_68 : decode mi_V_init.2.1 68 = .ok (.lconst 1, 1) := by decide +kernel
theorem d_V_init_69 : decode mi_V_init.2.1 69 = .ok (.iconst (1), 1) := by decide +kernel
theorem d_V_init_70 : decode mi_V_init.2.1 70 = .ok (.aload_n 0, 1) := by decide +kernel
theorem d_V_init_71 : decode mi_V_init.2.1 71 = .ok (.getfield 30, 3) := by decide +kernel
theorem d_V_init_74 : decode mi_V_init.2.1 74 = .ok (.ishl, 1) := by decide +kernel
theorem d_V_init_75 : decode mi_V_init.2.1 75 = .ok (.lshl, 1) := by decide +kernel
theorem d_V_init_76 : decode mi_V_init.2.1 76 = .ok (.lconst 1, 1) := by decide +kernel
theorem d_V_init_77 : decode mi_V_init.2.1 77 = .ok (.lsub, 1) := by decide +kernel
theorem d_V_init_78 : decode mi_V_init.2.1 78 = .ok (.putfield 39, 3) := by decide +kernel
theorem d_V_init_81 : decode mi_V_init.2.1 81 = .ok (.iconst (0), 1) := by decide +kernel
theorem d_V_init_82 : decode mi_V_init.2.1 82 = .ok (.bipush (80), 2) := by decide +kernel
theorem d_V_init_84 : decode mi_V_init.2.1 84 = .ok (.aload_n 1, 1) := by decide +kernel
theorem d_V_init_85 : decode mi_V_init.2.1 85 = .ok (.getfield 43, 3) := by decide +kernel
theorem d_V_init_88 : decode mi_V_init.2.1 88 = .ok (.invokestatic 21, 3) := by decide +kernel
theorem d_V_init_91 : decode mi_V_init.2.1 91 = .ok (.invokestatic 27, 3) := by decide +kernel
theorem d_V_init_94 : decode mi_V_init.2.1 94 = .ok (.aload_n 0, 1) := by decide +kernel
theorem d_V_init_95 : decode mi_V_init.2.1 95 = .ok (.getfield 34, 3) := by decide +kernel
theorem d_V_init_98 : decode mi_V_init.2.1 98 = .ok (.imul, 1) := by decide +kernel
theorem d_V_init_99 : decode mi_V_init.2.1 99 = .ok (.istore_n 2, 1) := by decide +kernel
theorem d_V_init_100 : decode mi_V_init.2.1 100 = .ok (.aload_n 0, 1) := by decide +kernel
theorem d_V_init_101 : decode mi_V_init.2.1 101 = .ok (.iload_n 2, 1) := by decide +kernel
theorem d_V_init_102 : decode mi_V_init.2.1 102 = .ok (.newarray .long, 2) := by decide +kernel
theorem d_V_init_104 : decode mi_V_init.2.1 104 = .ok (.putfield 46, 3) := by decide +kernel
theorem d_V_init_107 : decode mi_V_init.2.1 107 = .ok (.aload_n 0, 1) := by decide +kernel
theorem d_V_init_108 : decode mi_V_init.2.1 108 = .ok (.iload_n 2, 1) := by decide +kernel
theorem d_V_init_109 : decode mi_V_init.2.1 109 = .ok (.newarray .long, 2) := by decide +kernel
theorem d_V_init_111 : decode mi_V_init.2.1 111 = .ok (.putfield 50, 3) := by decide +kernel
theorem d_V_init_114 : decode mi_V_init.2.1 114 = .ok (.aload_n 0, 1) := by decide +kernel
theorem d_V_init_115 : decode mi_V_init.2.1 115 = .ok (.iload_n 2, 1) := by decide +kernel
theorem d_V_init_116 : decode mi_V_init.2.1 116 = .ok (.newarray .long, 2) := by decide +kernel
theorem d_V_init_118 : decode mi_V_init.2.1 118 = .ok (.putfield 53, 3) := by decide +kernel
theorem d_V_init_121 : decode mi_V_init.2.1 121 = .ok (.aload_n 0, 1) := by decide +kernel
theorem d_V_init_122 : decode mi_V_init.2.1 122 = .ok (.aload_n 0, 1) := by decide +kernel
theorem d_V_init_123 : decode mi_V_init.2.1 123 = .ok (.getfield 34, 3) := by decide +kernel
theorem d_V_init_126 : decode mi_V_init.2.1 126 = .ok (.newarray .long, 2) := by decide +kernel
theorem d_V_init_128 : decode mi_V_init.2.1 128 = .ok (.putfield 56, 3) := by decide +kernel
theorem d_V_init_131 : decode mi_V_init.2.1 131 = .ok (.aload_n 0, 1) := by decide +kernel
theorem d_V_init_132 : decode mi_V_init.2.1 132 = .ok (.aload_n 0, 1) := by decide +kernel
theorem d_V_init_133 : decode mi_V_init.2.1 133 = .ok (.getfield 34, 3) := by decide +kernel
theorem d_V_init_136 : decode mi_V_init.2.1 136 = .ok (.newarray .long, 2) := by decide +kernel
theorem d_V_init_138 : decode mi_V_init.2.1 138 = .ok (.putfield 59, 3) := by decide +kernel
theorem d_V_init_141 : decode mi_V_init.2.1 141 = .ok (.aload_n 0, 1) := by decide +kernel
theorem d_V_init_142 : decode mi_V_init.2.1 142 = .ok (.iconst (0), 1) := by decide +kernel
theorem d_V_init_143 : decode mi_V_init.2.1 143 = .ok (.putfield 62, 3) := by decide +kernel
theorem d_V_init_146 : decode mi_V_init.2.1 146 = .ok (.aload_n 0, 1) := by decide +kernel
theorem d_V_init_147 : decode mi_V_init.2.1 147 = .ok (.iconst (1), 1) := by decide +kernel
theorem d_V_init_148 : decode mi_V_init.2.1 148 = .ok (.aload_n 0, 1) := by decide +kernel
theorem d_V_init_149 : decode mi_V_init.2.1 149 = .ok (.getfield 30, 3) := by decide +kernel
theorem d_V_init_152 : decode mi_V_init.2.1 152 = .ok (.ishl, 1) := by decide +kernel
theorem d_V_init_153 : decode mi_V_init.2.1 153 = .ok (.putfield 65, 3) := by decide +kernel
theorem d_V_init_156 : decode mi_V_init.2.1 156 = .ok (.aload_n 0, 1) := by decide +kernel
theorem d_V_init_157 : decode mi_V_init.2.1 157 = .ok (.ldc2_w 37, 3) := by decide +kernel
theorem d_V_init_160 : decode mi_V_init.2.1 160 = .ok (.putfield 68, 3) := by decide +kernel
theorem d_V_init_163 : decode mi_V_init.2.1 163 = .ok (.return_, 1) := by decide +kernel
theorem s_V_init_1 : kObj TT cl6 X mi_V_init 1 := k_obj (index := 3) d_V_init_1 t_3_114 t_1_36 t_1_37
theorem s_V_init_6 : kPut TT cl6 X mi_V_init 6 3 0 (.object "Miterhouse$Nets") := k_putF (index := 9) cK_3 d_V_init_6 (by decide) t_3_126 rfl rfl rfl
theorem s_V_init_14 : kCall TT cl6 X mi_V_init 14 3 mi_N_sourceCount 2 1 1 := k_virtual (index := 15) d_V_init_14 cs_N_sourceCount rfl rfl t_3_115 t_3_116 t_3_117
theorem s_V_init_23 : kPut TT cl6 X mi_V_init 23 3 1 .int := k_putF (index := 30) cK_3 d_V_init_23 (by decide) t_3_129 rfl rfl rfl
theorem s_V_init_28 : kGet TT cl6 X mi_V_init 28 3 1 := k_get (index := 30) cK_3 d_V_init_28 (by decide) ⟨"Miterhouse$Values", Or.inl t_3_129, Or.inl rfl⟩
theorem s_V_init_38 : kGet TT cl6 X mi_V_init 38 3 1 := k_get (index := 30) cK_3 d_V_init_38 (by decide) ⟨"Miterhouse$Values", Or.inl t_3_129, Or.inl rfl⟩
theorem s_V_init_49 : kPut TT cl6 X mi_V_init 49 3 2 .int := k_putF (index := 34) cK_3 d_V_init_49 (by decide) t_3_132 rfl rfl rfl
theorem s_V_init_54 : kGet TT cl6 X mi_V_init 54 3 1 := k_get (index := 30) cK_3 d_V_init_54 (by decide) ⟨"Miterhouse$Values", Or.inl t_3_129, Or.inl rfl⟩
theorem s_V_init_62 : kPush TT cl6 X mi_V_init 62 3 (.long (Int64.ofInt (-1))) := k_ldc2 (index := 37) d_V_init_62 t_3_125
theorem s_V_init_71 : kGet TT cl6 X mi_V_init 71 3 1 := k_get (index := 30) cK_3 d_V_init_71 (by decide) ⟨"Miterhouse$Values", Or.inl t_3_129, Or.inl rfl⟩
theorem s_V_init_78 : kPut TT cl6 X mi_V_init 78 3 3 .long := k_putF (index := 39) cK_3 d_V_init_78 (by decide) t_3_135 rfl rfl rfl
theorem s_V_init_85 : kGet TT cl6 X mi_V_init 85 1 11 := k_get (index := 43) cK_1 d_V_init_85 (by decide) ⟨"Miterhouse$Nets", Or.inl t_1_55, Or.inl rfl⟩
theorem s_V_init_95 : kGet TT cl6 X mi_V_init 95 3 2 := k_get (index := 34) cK_3 d_V_init_95 (by decide) ⟨"Miterhouse$Values", Or.inl t_3_132, Or.inl rfl⟩
theorem s_V_init_104 : kPut TT cl6 X mi_V_init 104 3 4 (.array .long) := k_putF (index := 46) cK_3 d_V_init_104 (by decide) t_3_137 rfl rfl rfl
theorem s_V_init_111 : kPut TT cl6 X mi_V_init 111 3 5 (.array .long) := k_putF (index := 50) cK_3 d_V_init_111 (by decide) t_3_138 rfl rfl rfl
theorem s_V_init_118 : kPut TT cl6 X mi_V_init 118 3 6 (.array .long) := k_putF (index := 53) cK_3 d_V_init_118 (by decide) t_3_139 rfl rfl rfl
theorem s_V_init_123 : kGet TT cl6 X mi_V_init 123 3 2 := k_get (index := 34) cK_3 d_V_init_123 (by decide) ⟨"Miterhouse$Values", Or.inl t_3_132, Or.inl rfl⟩
theorem s_V_init_128 : kPut TT cl6 X mi_V_init 128 3 7 (.array .long) := k_putF (index := 56) cK_3 d_V_init_128 (by decide) t_3_140 rfl rfl rfl
theorem s_V_init_133 : kGet TT cl6 X mi_V_init 133 3 2 := k_get (index := 34) cK_3 d_V_init_133 (by decide) ⟨"Miterhouse$Values", Or.inl t_3_132, Or.inl rfl⟩
theorem s_V_init_138 : kPut TT cl6 X mi_V_init 138 3 8 (.array .long) := k_putF (index := 59) cK_3 d_V_init_138 (by decide) t_3_141 rfl rfl rfl
theorem s_V_init_143 : kPut TT cl6 X mi_V_init 143 3 9 .int := k_put (index := 62) cK_3 d_V_init_143 (by decide) ⟨"Miterhouse$Values", Or.inl t_3_142, Or.inl rfl⟩ rfl
theorem s_V_init_149 : kGet TT cl6 X mi_V_init 149 3 1 := k_get (index := 30) cK_3 d_V_init_149 (by decide) ⟨"Miterhouse$Values", Or.inl t_3_129, Or.inl rfl⟩
theorem s_V_init_153 : kPut TT cl6 X mi_V_init 153 3 10 .int := k_put (index := 65) cK_3 d_V_init_153 (by decide) ⟨"Miterhouse$Values", Or.inl t_3_145, Or.inl rfl⟩ rfl
theorem s_V_init_157 : kPush TT cl6 X mi_V_init 157 3 (.long (Int64.ofInt (-1))) := k_ldc2 (index := 37) d_V_init_157 t_3_125
theorem s_V_init_160 : kPut TT cl6 X mi_V_init 160 3 11 .long := k_put (index := 68) cK_3 d_V_init_160 (by decide) ⟨"Miterhouse$Values", Or.inl t_3_147, Or.inl rfl⟩ rfl
theorem d_V_areKeptInputs_0 : decode mi_V_areKeptInputs.2.1 0 = .ok (.aload_n 0, 1) := by decide +kernel
theorem d_V_areKeptInputs_1 : decode mi_V_areKeptInputs.2.1 1 = .ok (.getfield 68, 3) := by decide +kernel
theorem d_V_areKeptInputs_4 : decode mi_V_areKeptInputs.2.1 4 = .ok (.iload_n 1, 1) := by decide +kernel
theorem d_V_areKeptInputs_5 : decode mi_V_areKeptInputs.2.1 5 = .ok (.lushr, 1) := by decide +kernel
theorem d_V_areKeptInputs_6 : decode mi_V_areKeptInputs.2.1 6 = .ok (.lconst 1, 1) := by decide +kernel
theorem d_V_areKeptInputs_7 : decode mi_V_areKeptInputs.2.1 7 = .ok (.land, 1) := by decide +kernel
theorem d_V_areKeptInputs_8 : decode mi_V_areKeptInputs.2.1 8 = .ok (.lconst 0, 1) := by decide +kernel
theorem d_V_areKeptInputs_9 : decode mi_V_areKeptInputs.2.1 9 = .ok (.lcmp, 1) := by decide +kernel
theorem d_V_areKeptInputs_10 : decode mi_V_areKeptInputs.2.1 10 = .ok (.ifCond .eq (7), 3) := by decide +kernel
theorem d_V_areKeptInputs_13 : decode mi_V_areKeptInputs.2.1 13 = .ok (.iconst (1), 1) := by decide +kernel
theorem d_V_areKeptInputs_14 : decode mi_V_areKeptInputs.2.1 14 = .ok (.goto (4), 3) := by decide +kernel
theorem d_V_areKeptInputs_17 : decode mi_V_areKeptInputs.2.1 17 = .ok (.iconst (0), 1) := by decide +kernel
theorem d_V_areKeptInputs_18 : decode mi_V_areKeptInputs.2.1 18 = .ok (.ireturn, 1) := by decide +kernel
theorem s_V_areKeptInputs_1 : kGet TT cl6 X mi_V_areKeptInputs 1 3 11 := k_get (index := 68) cK_3 d_V_areKeptInputs_1 (by decide) ⟨"Miterhouse$Values", Or.inl t_3_147, Or.inl rfl⟩
theorem d_V_bitAtChoice_0 : decode mi_V_bitAtChoice.2.1 0 = .ok (.aload_n 0, 1) := by decide +kernel
theorem d_V_bitAtChoice_1 : decode mi_V_bitAtChoice.2.1 1 = .ok (.iload_n 2, 1) := by decide +kernel
theorem d_V_bitAtChoice_2 : decode mi_V_bitAtChoice.2.1 2 = .ok (.invokevirtual 131, 3) := by decide +kernel
theorem d_V_bitAtChoice_5 : decode mi_V_bitAtChoice.2.1 5 = .ok (.istore_n 3, 1) := by decide +kernel
theorem d_V_bitAtChoice_6 : decode mi_V_bitAtChoice.2.1 6 = .ok (.aload_n 0, 1) := by decide +kernel
theorem d_V_bitAtChoice_7 : decode mi_V_bitAtChoice.2.1 7 = .ok (.getfield 46, 3) := by decide +kernel
theorem d_V_bitAtChoice_10 : decode mi_V_bitAtChoice.2.1 10 = .ok (.iload_n 1, 1) := by decide +kernel
theorem d_V_bitAtChoice_11 : decode mi_V_bitAtChoice.2.1 11 = .ok (.aload_n 0, 1) := by decide +kernel
theorem d_V_bitAtChoice_12 : decode mi_V_bitAtChoice.2.1 12 = .ok (.getfield 34, 3) := by decide +kernel
theorem d_V_bitAtChoice_15 : decode mi_V_bitAtChoice.2.1 15 = .ok (.imul, 1) := by decide +kernel
theorem d_V_bitAtChoice_16 : decode mi_V_bitAtChoice.2.1 16 = .ok (.iload_n 3, 1) := by decide +kernel
theorem d_V_bitAtChoice_17 : decode mi_V_bitAtChoice.2.1 17 = .ok (.bipush (6), 2) := by decide +kernel
theorem d_V_bitAtChoice_19 : decode mi_V_bitAtChoice.2.1 19 = .ok (.ishr, 1) := by decide +kernel
theorem d_V_bitAtChoice_20 : decode mi_V_bitAtChoice.2.1 20 = .ok (.iadd, 1) := by decide +kernel
theorem d_V_bitAtChoice_21 : decode mi_V_bitAtChoice.2.1 21 = .ok (.invokestatic 119, 3) := by decide +kernel
theorem d_V_bitAtChoice_24 : decode mi_V_bitAtChoice.2.1 24 = .ok (.iload_n 3, 1) := by decide +kernel
theorem d_V_bitAtChoice_25 : decode mi_V_bitAtChoice.2.1 25 = .ok (.bipush (63), 2) := by decide +kernel
theorem d_V_bitAtChoice_27 : decode mi_V_bitAtChoice.2.1 27 = .ok (.iand, 1) := by decide +kernel
theorem d_V_bitAtChoice_28 : decode mi_V_bitAtChoice.2.1 28 = .ok (.lushr, 1) := by decide +kernel
theorem d_V_bitAtChoice_29 : decode mi_V_bitAtChoice.2.1 29 = .ok (.l2i, 1) := by decide +kernel
theorem d_V_bitAtChoice_30 : decode mi_V_bitAtChoice.2.1 30 = .ok (.iconst (1), 1) := by decide +kernel
theorem d_V_bitAtChoice_31 : decode mi_V_bitAtChoice.2.1 31 = .ok (.iand, 1) := by decide +kernel
theorem d_V_bitAtChoice_32 : decode mi_V_bitAtChoice.2.1 32 = .ok (.ireturn, 1) := by decide +kernel
theorem s_V_bitAtChoice_2 : kCall TT cl6 X mi_V_bitAtChoice 2 3 mi_V_mirrored 2 2 3 := k_virtual (index := 131) d_V_bitAtChoice_2 cs_V_mirrored rfl rfl t_1_148 t_1_149 t_1_150
theorem s_V_bitAtChoice_7 : kGet TT cl6 X mi_V_bitAtChoice 7 3 4 := k_get (index := 46) cK_3 d_V_bitAtChoice_7 (by decide) ⟨"Miterhouse$Values", Or.inl t_3_137, Or.inl rfl⟩
theorem s_V_bitAtChoice_12 : kGet TT cl6 X mi_V_bitAtChoice 12 3 2 := k_get (index := 34) cK_3 d_V_bitAtChoice_12 (by decide) ⟨"Miterhouse$Values", Or.inl t_3_132, Or.inl rfl⟩
theorem s_V_bitAtChoice_21 : kCall TT cl6 X mi_V_bitAtChoice 21 3 mi_M_wordAt 4 2 0 := k_staticN (index := 119) d_V_bitAtChoice_21 cs_M_wordAt rfl t_1_153 t_1_154
theorem d_V_bitOfIndex_0 : decode mi_V_bitOfIndex.2.1 0 = .ok (.iload_n 0, 1) := by decide +kernel
theorem d_V_bitOfIndex_1 : decode mi_V_bitOfIndex.2.1 1 = .ok (.bipush (6), 2) := by decide +kernel
theorem d_V_bitOfIndex_3 : decode mi_V_bitOfIndex.2.1 3 = .ok (.if_icmp .ge (8), 3) := by decide +kernel
theorem d_V_bitOfIndex_6 : decode mi_V_bitOfIndex.2.1 6 = .ok (.iload_n 0, 1) := by decide +kernel
theorem d_V_bitOfIndex_7 : decode mi_V_bitOfIndex.2.1 7 = .ok (.invokestatic 105, 3) := by decide +kernel
theorem d_V_bitOfIndex_10 : decode mi_V_bitOfIndex.2.1 10 = .ok (.lreturn, 1) := by decide +kernel
theorem d_V_bitOfIndex_11 : decode mi_V_bitOfIndex.2.1 11 = .ok (.iload_n 1, 1) := by decide +kernel
theorem d_V_bitOfIndex_12 : decode mi_V_bitOfIndex.2.1 12 = .ok (.iload_n 0, 1) := by decide +kernel
theorem d_V_bitOfIndex_13 : decode mi_V_bitOfIndex.2.1 13 = .ok (.bipush (6), 2) := by decide +kernel
theorem d_V_bitOfIndex_15 : decode mi_V_bitOfIndex.2.1 15 = .ok (.isub, 1) := by decide +kernel
theorem d_V_bitOfIndex_16 : decode mi_V_bitOfIndex.2.1 16 = .ok (.ishr, 1) := by decide +kernel
theorem d_V_bitOfIndex_17 : decode mi_V_bitOfIndex.2.1 17 = .ok (.iconst (1), 1) := by decide +kernel
theorem d_V_bitOfIndex_18 : decode mi_V_bitOfIndex.2.1 18 = .ok (.iand, 1) := by decide +kernel
theorem d_V_bitOfIndex_19 : decode mi_V_bitOfIndex.2.1 19 = .ok (.ifCond .eq (9), 3) := by decide +kernel
theorem d_V_bitOfIndex_22 : decode mi_V_bitOfIndex.2.1 22 = .ok (.ldc2_w 37, 3) := by decide +kernel
theorem d_V_bitOfIndex_25 : decode mi_V_bitOfIndex.2.1 25 = .ok (.goto (4), 3) := by decide +kernel
theorem d_V_bitOfIndex_28 : decode mi_V_bitOfIndex.2.1 28 = .ok (.lconst 0, 1) := by decide +kernel
theorem d_V_bitOfIndex_29 : decode mi_V_bitOfIndex.2.1 29 = .ok (.lreturn, 1) := by decide +kernel
theorem s_V_bitOfIndex_7 : kCall TT cl6 X mi_V_bitOfIndex 7 3 mi_M_highHalf 4 1 0 := k_staticN (index := 105) d_V_bitOfIndex_7 cs_M_highHalf rfl t_5_44 t_5_45
theorem s_V_bitOfIndex_22 : kPush TT cl6 X mi_V_bitOfIndex 22 3 (.long (Int64.ofInt (-1))) := k_ldc2 (index := 37) d_V_bitOfIndex_22 t_3_125
theorem d_V_fill_0 : decode mi_V_fill.2.1 0 = .ok (.aload_n 0, 1) := by decide +kernel
theorem d_V_fill_1 : decode mi_V_fill.2.1 1 = .ok (.getfield 56, 3) := by decide +kernel
theorem d_V_fill_4 : decode mi_V_fill.2.1 4 = .ok (.aload_n 0, 1) := by decide +kernel
theorem d_V_fill_5 : decode mi_V_fill.2.1 5 = .ok (.getfield 39, 3) := by decide +kernel
theorem d_V_fill_8 : decode mi_V_fill.2.1 8 = .ok (.invokestatic 71, 3) := by decide +kernel
theorem d_V_fill_11 : decode mi_V_fill.2.1 11 = .ok (.iconst (0), 1) := by decide +kernel
theorem d_V_fill_12 : decode mi_V_fill.2.1 12 = .ok (.istore_n 1, 1) := by decide +kernel
theorem d_V_fill_13 : decode mi_V_fill.2.1 13 = .ok (.iload_n 1, 1) := by decide +kernel
theorem d_V_fill_14 : decode mi_V_fill.2.1 14 = .ok (.aload_n 0, 1) := by decide +kernel
theorem d_V_fill_15 : decode mi_V_fill.2.1 15 = .ok (.getfield 9, 3) := by decide +kernel
theorem d_V_fill_18 : decode mi_V_fill.2.1 18 = .ok (.getfield 43, 3) := by decide +kernel
theorem d_V_fill_21 : decode mi_V_fill.2.1 21 = .ok (.if_icmp .ge (41), 3) := by decide +kernel
theorem d_V_fill_24 : decode mi_V_fill.2.1 24 = .ok (.aload_n 0, 1) := by decide +kernel
theorem d_V_fill_25 : decode mi_V_fill.2.1 25 = .ok (.getfield 9, 3) := by decide +kernel
theorem d_V_fill_28 : decode mi_V_fill.2.1 28 = .ok (.iload_n 1, 1) := by decide +kernel
theorem d_V_fill_29 : decode mi_V_fill.2.1 29 = .ok (.invokevirtual 77, 3) := by decide +kernel
theorem d_V_fill_32 : decode mi_V_fill.2.1 32 = .ok (.ifCond .eq (11), 3) := by decide +kernel
theorem d_V_fill_35 : decode mi_V_fill.2.1 35 = .ok (.aload_n 0, 1) := by decide +kernel
theorem d_V_fill_36 : decode mi_V_fill.2.1 36 = .ok (.iload_n 1, 1) := by decide +kernel
theorem d_V_fill_37 : decode mi_V_fill.2.1 37 = .ok (.invokevirtual 81, 3) := by decide +kernel
theorem d_V_fill_40 : decode mi_V_fill.2.1 40 = .ok (.goto (16), 3) := by decide +kernel
theorem d_V_fill_43 : decode mi_V_fill.2.1 43 = .ok (.aload_n 0, 1) := by decide +kernel
theorem d_V_fill_44 : decode mi_V_fill.2.1 44 = .ok (.iload_n 1, 1) := by decide +kernel
theorem d_V_fill_45 : decode mi_V_fill.2.1 45 = .ok (.aload_n 0, 1) := by decide +kernel
theorem d_V_fill_46 : decode mi_V_fill.2.1 46 = .ok (.getfield 9, 3) := by decide +kernel
theorem d_V_fill_49 : decode mi_V_fill.2.1 49 = .ok (.iload_n 1, 1) := by decide +kernel
theorem d_V_fill_50 : decode mi_V_fill.2.1 50 = .ok (.invokevirtual 85, 3) := by decide +kernel
theorem d_V_fill_53 : decode mi_V_fill.2.1 53 = .ok (.invokevirtual 89, 3) := by decide +kernel
theorem d_V_fill_56 : decode mi_V_fill.2.1 56 = .ok (.iinc 1 (1), 3) := by decide +kernel
theorem d_V_fill_59 : decode mi_V_fill.2.1 59 = .ok (.goto (-46), 3) := by decide +kernel
theorem d_V_fill_62 : decode mi_V_fill.2.1 62 = .ok (.return_, 1) := by decide +kernel
theorem s_V_fill_1 : kGet TT cl6 X mi_V_fill 1 3 7 := k_get (index := 56) cK_3 d_V_fill_1 (by decide) ⟨"Miterhouse$Values", Or.inl t_3_140, Or.inl rfl⟩
theorem s_V_fill_5 : kGet TT cl6 X mi_V_fill 5 3 3 := k_get (index := 39) cK_3 d_V_fill_5 (by decide) ⟨"Miterhouse$Values", Or.inl t_3_135, Or.inl rfl⟩
theorem s_V_fill_8 : kCall TT cl6 X mi_V_fill 8 3 mi_J_fillL 1 2 0 := k_static (index := 71) d_V_fill_8 cs_J_fillL t_5_4 t_5_5
theorem s_V_fill_15 : kGet TT cl6 X mi_V_fill 15 3 0 := k_get (index := 9) cK_3 d_V_fill_15 (by decide) ⟨"Miterhouse$Values", Or.inl t_3_126, Or.inl rfl⟩
theorem s_V_fill_18 : kGet TT cl6 X mi_V_fill 18 1 11 := k_get (index := 43) cK_1 d_V_fill_18 (by decide) ⟨"Miterhouse$Nets", Or.inl t_1_55, Or.inl rfl⟩
theorem s_V_fill_25 : kGet TT cl6 X mi_V_fill 25 3 0 := k_get (index := 9) cK_3 d_V_fill_25 (by decide) ⟨"Miterhouse$Values", Or.inl t_3_126, Or.inl rfl⟩
theorem s_V_fill_29 : kCall TT cl6 X mi_V_fill 29 3 mi_N_isGate 2 2 1 := k_virtual (index := 77) d_V_fill_29 cs_N_isGate rfl rfl t_5_7 t_5_8 t_5_9
theorem s_V_fill_37 : kCall TT cl6 X mi_V_fill 37 3 mi_V_fillGate 2 2 3 := k_virtual (index := 81) d_V_fill_37 cs_V_fillGate rfl rfl t_5_11 t_5_13 ts_19
theorem s_V_fill_46 : kGet TT cl6 X mi_V_fill 46 3 0 := k_get (index := 9) cK_3 d_V_fill_46 (by decide) ⟨"Miterhouse$Values", Or.inl t_3_126, Or.inl rfl⟩
theorem s_V_fill_50 : kCall TT cl6 X mi_V_fill 50 3 mi_N_sourceAtLine 2 2 1 := k_virtual (index := 85) d_V_fill_50 cs_N_sourceAtLine rfl rfl t_5_31 t_5_32 t_5_33
theorem s_V_fill_53 : kCall TT cl6 X mi_V_fill 53 3 mi_V_fillSource 2 3 3 := k_virtual (index := 89) d_V_fill_53 cs_V_fillSource rfl rfl t_5_37 t_5_39 ts_20
theorem d_V_fillGate_0 : decode mi_V_fillGate.2.1 0 = .ok (.aload_n 0, 1) := by decide +kernel
theorem d_V_fillGate_1 : decode mi_V_fillGate.2.1 1 = .ok (.getfield 9, 3) := by decide +kernel
theorem d_V_fillGate_4 : decode mi_V_fillGate.2.1 4 = .ok (.iload_n 1, 1) := by decide +kernel
theorem d_V_fillGate_5 : decode mi_V_fillGate.2.1 5 = .ok (.invokevirtual 109, 3) := by decide +kernel
theorem d_V_fillGate_8 : decode mi_V_fillGate.2.1 8 = .ok (.istore_n 2, 1) := by decide +kernel
theorem d_V_fillGate_9 : decode mi_V_fillGate.2.1 9 = .ok (.iconst (0), 1) := by decide +kernel
theorem d_V_fillGate_10 : decode mi_V_fillGate.2.1 10 = .ok (.istore_n 3, 1) := by decide +kernel
theorem d_V_fillGate_11 : decode mi_V_fillGate.2.1 11 = .ok (.iload_n 3, 1) := by decide +kernel
theorem d_V_fillGate_12 : decode mi_V_fillGate.2.1 12 = .ok (.aload_n 0, 1) := by decide +kernel
theorem d_V_fillGate_13 : decode mi_V_fillGate.2.1 13 = .ok (.getfield 34, 3) := by decide +kernel
theorem d_V_fillGate_16 : decode mi_V_fillGate.2.1 16 = .ok (.if_icmp .ge (195), 3) := by decide +kernel
theorem d_V_fillGate_19 : decode mi_V_fillGate.2.1 19 = .ok (.iload_n 1, 1) := by decide +kernel
theorem d_V_fillGate_20 : decode mi_V_fillGate.2.1 20 = .ok (.aload_n 0, 1) := by decide +kernel
theorem d_V_fillGate_21 : decode mi_V_fillGate.2.1 21 = .ok (.getfield 34, 3) := by decide +kernel
theorem d_V_fillGate_24 : decode mi_V_fillGate.2.1 24 = .ok (.imul, 1) := by decide +kernel
theorem d_V_fillGate_25 : decode mi_V_fillGate.2.1 25 = .ok (.iload_n 3, 1) := by decide +kernel
theorem d_V_fillGate_26 : decode mi_V_fillGate.2.1 26 = .ok (.iadd, 1) := by decide +kernel
theorem d_V_fillGate_27 : decode mi_V_fillGate.2.1 27 = .ok (.istore 4, 2) := by decide +kernel
theorem d_V_fillGate_29 : decode mi_V_fillGate.2.1 29 = .ok (.aload_n 0, 1) := by decide +kernel
theorem d_V_fillGate_30 : decode mi_V_fillGate.2.1 30 = .ok (.getfield 9, 3) := by decide +kernel
theorem d_V_fillGate_33 : decode mi_V_fillGate.2.1 33 = .ok (.iload_n 1, 1) := by decide +kernel
theorem d_V_fillGate_34 : decode mi_V_fillGate.2.1 34 = .ok (.invokevirtual 113, 3) := by decide +kernel
theorem d_V_fillGate_37 : decode mi_V_fillGate.2.1 37 = .ok (.aload_n 0, 1) := by decide +kernel
theorem d_V_fillGate_38 : decode mi_V_fillGate.2.1 38 = .ok (.getfield 34, 3) := by decide +kernel
theorem d_V_fillGate_41 : decode mi_V_fillGate.2.1 41 = .ok (.imul, 1) := by decide +kernel
theorem d_V_fillGate_42 : decode mi_V_fillGate.2.1 42 = .ok (.iload_n 3, 1) := by decide +kernel
theorem d_V_fillGate_43 : decode mi_V_fillGate.2.1 43 = .ok (.iadd, 1) := by decide +kernel
theorem d_V_fillGate_44 : decode mi_V_fillGate.2.1 44 = .ok (.istore 5, 2) := by decide +kernel
theorem d_V_fillGate_46 : decode mi_V_fillGate.2.1 46 = .ok (.aload_n 0, 1) := by decide +kernel
theorem d_V_fillGate_47 : decode mi_V_fillGate.2.1 47 = .ok (.getfield 9, 3) := by decide +kernel
theorem d_V_fillGate_50 : decode mi_V_fillGate.2.1 50 = .ok (.iload_n 1, 1) := by decide +kernel
theorem d_V_fillGate_51 : decode mi_V_fillGate.2.1 51 = .ok (.invokevirtual 116, 3) := by decide +kernel
theorem d_V_fillGate_54 : decode mi_V_fillGate.2.1 54 = .ok (.aload_n 0, 1) := by decide +kernel
theorem d_V_fillGate_55 : decode mi_V_fillGate.2.1 55 = .ok (.getfield 34, 3) := by decide +kernel
theorem d_V_fillGate_58 : decode mi_V_fillGate.2.1 58 = .ok (.imul, 1) := by decide +kernel
theorem d_V_fillGate_59 : decode mi_V_fillGate.2.1 59 = .ok (.iload_n 3, 1) := by decide +kernel
theorem d_V_fillGate_60 : decode mi_V_fillGate.2.1 60 = .ok (.iadd, 1) := by decide +kernel
theorem d_V_fillGate_61 : decode mi_V_fillGate.2.1 61 = .ok (.istore 6, 2) := by decide +kernel
theorem d_V_fillGate_63 : decode mi_V_fillGate.2.1 63 = .ok (.aload_n 0, 1) := by decide +kernel
theorem d_V_fillGate_64 : decode mi_V_fillGate.2.1 64 = .ok (.getfield 46, 3) := by decide +kernel
theorem d_V_fillGate_67 : decode mi_V_fillGate.2.1 67 = .ok (.iload 5, 2) := by decide +kernel
theorem d_V_fillGate_69 : decode mi_V_fillGate.2.1 69 = .ok (.invokestatic 119, 3) := by decide +kernel
theorem d_V_fillGate_72 : decode mi_V_fillGate.2.1 72 = .ok (.lstore 7, 2) := by decide +kernel
theorem d_V_fillGate_74 : decode mi_V_fillGate.2.1 74 = .ok (.aload_n 0, 1) := by decide +kernel
theorem d_V_fillGate_75 : decode mi_V_fillGate.2.1 75 = .ok (.getfield 46, 3) := by decide +kernel
theorem d_V_fillGate_78 : decode mi_V_fillGate.2.1 78 = .ok (.iload 6, 2) := by decide +kernel
theorem d_V_fillGate_80 : decode mi_V_fillGate.2.1 80 = .ok (.invokestatic 119, 3) := by decide +kernel
theorem d_V_fillGate_83 : decode mi_V_fillGate.2.1 83 = .ok (.lstore 9, 2) := by decide +kernel
theorem d_V_fillGate_85 : decode mi_V_fillGate.2.1 85 = .ok (.aload_n 0, 1) := by decide +kernel
theorem d_V_fillGate_86 : decode mi_V_fillGate.2.1 86 = .ok (.getfield 46, 3) := by decide +kernel
theorem d_V_fillGate_89 : decode mi_V_fillGate.2.1 89 = .ok (.iload 4, 2) := by decide +kernel
theorem d_V_fillGate_91 : decode mi_V_fillGate.2.1 91 = .ok (.iload_n 2, 1) := by decide +kernel
theorem d_V_fillGate_92 : decode mi_V_fillGate.2.1 92 = .ok (.lload 7, 2) := by decide +kernel
theorem d_V_fillGate_94 : decode mi_V_fillGate.2.1 94 = .ok (.lload 7, 2) := by decide +kernel
theorem d_V_fillGate_96 : decode mi_V_fillGate.2.1 96 = .ok (.ldc2_w 37, 3) := by decide +kernel
theorem d_V_fillGate_99 : decode mi_V_fillGate.2.1 99 = .ok (.lxor, 1) := by decide +kernel
theorem d_V_fillGate_100 : decode mi_V_fillGate.2.1 100 = .ok (.lload 9, 2) := by decide +kernel
theorem d_V_fillGate_102 : decode mi_V_fillGate.2.1 102 = .ok (.lload 9, 2) := by decide +kernel
theorem d_V_fillGate_104 : decode mi_V_fillGate.2.1 104 = .ok (.ldc2_w 37, 3) := by decide +kernel
theorem d_V_fillGate_107 : decode mi_V_fillGate.2.1 107 = .ok (.lxor, 1) := by decide +kernel
theorem d_V_fillGate_108 : decode mi_V_fillGate.2.1 108 = .ok (.invokestatic 123, 3) := by decide +kernel
theorem d_V_fillGate_111 : decode mi_V_fillGate.2.1 111 = .ok (.aload_n 0, 1) := by decide +kernel
theorem d_V_fillGate_112 : decode mi_V_fillGate.2.1 112 = .ok (.getfield 39, 3) := by decide +kernel
theorem d_V_fillGate_115 : decode mi_V_fillGate.2.1 115 = .ok (.land, 1) := by decide +kernel
theorem d_V_fillGate_116 : decode mi_V_fillGate.2.1 116 = .ok (.invokestatic 97, 3) := by decide +kernel
theorem d_V_fillGate_119 : decode mi_V_fillGate.2.1 119 = .ok (.aload_n 0, 1) := by decide +kernel
theorem d_V_fillGate_120 : decode mi_V_fillGate.2.1 120 = .ok (.getfield 53, 3) := by decide +kernel
theorem d_V_fillGate_123 : decode mi_V_fillGate.2.1 123 = .ok (.iload 5, 2) := by decide +kernel
theorem d_V_fillGate_125 : decode mi_V_fillGate.2.1 125 = .ok (.invokestatic 119, 3) := by decide +kernel
theorem d_V_fillGate_128 : decode mi_V_fillGate.2.1 128 = .ok (.lstore 11, 2) := by decide +kernel
theorem d_V_fillGate_130 : decode mi_V_fillGate.2.1 130 = .ok (.aload_n 0, 1) := by decide +kernel
theorem d_V_fillGate_131 : decode mi_V_fillGate.2.1 131 = .ok (.getfield 50, 3) := by decide +kernel
theorem d_V_fillGate_134 : decode mi_V_fillGate.2.1 134 = .ok (.iload 5, 2) := by decide +kernel
theorem d_V_fillGate_136 : decode mi_V_fillGate.2.1 136 = .ok (.invokestatic 119, 3) := by decide +kernel
theorem d_V_fillGate_139 : decode mi_V_fillGate.2.1 139 = .ok (.lstore 13, 2) := by decide +kernel
theorem d_V_fillGate_141 : decode mi_V_fillGate.2.1 141 = .ok (.aload_n 0, 1) := by decide +kernel
theorem d_V_fillGate_142 : decode mi_V_fillGate.2.1 142 = .ok (.getfield 53, 3) := by decide +kernel
theorem d_V_fillGate_145 : decode mi_V_fillGate.2.1 145 = .ok (.iload 6, 2) := by decide +kernel
theorem d_V_fillGate_147 : decode mi_V_fillGate.2.1 147 = .ok (.invokestatic 119, 3) := by decide +kernel
theorem d_V_fillGate_150 : decode mi_V_fillGate.2.1 150 = .ok (.lstore 15, 2) := by decide +kernel
theorem d_V_fillGate_152 : decode mi_V_fillGate.2.1 152 = .ok (.aload_n 0, 1) := by decide +kernel
theorem d_V_fillGate_153 : decode mi_V_fillGate.2.1 153 = .ok (.getfield 50, 3) := by decide +kernel
theorem d_V_fillGate_156 : decode mi_V_fillGate.2.1 156 = .ok (.iload 6, 2) := by decide +kernel
theorem d_V_fillGate_158 : decode mi_V_fillGate.2.1 158 = .ok (.invokestatic 119, 3) := by decide +kernel
theorem d_V_fillGate_161 : decode mi_V_fillGate.2.1 161 = .ok (.lstore 17, 2) := by decide +kernel
theorem d_V_fillGate_163 : decode mi_V_fillGate.2.1 163 = .ok (.aload_n 0, 1) := by decide +kernel
theorem d_V_fillGate_164 : decode mi_V_fillGate.2.1 164 = .ok (.getfield 53, 3) := by decide +kernel
theorem d_V_fillGate_167 : decode mi_V_fillGate.2.1 167 = .ok (.iload 4, 2) := by decide +kernel
theorem d_V_fillGate_169 : decode mi_V_fillGate.2.1 169 = .ok (.iload_n 2, 1) := by decide +kernel
theorem d_V_fillGate_170 : decode mi_V_fillGate.2.1 170 = .ok (.lload 11, 2) := by decide +kernel
theorem d_V_fillGate_172 : decode mi_V_fillGate.2.1 172 = .ok (.lload 13, 2) := by decide +kernel
theorem d_V_fillGate_174 : decode mi_V_fillGate.2.1 174 = .ok (.lload 15, 2) := by decide +kernel
theorem d_V_fillGate_176 : decode mi_V_fillGate.2.1 176 = .ok (.lload 17, 2) := by decide +kernel
theorem d_V_fillGate_178 : decode mi_V_fillGate.2.1 178 = .ok (.invokestatic 123, 3) := by decide +kernel
theorem d_V_fillGate_181 : decode mi_V_fillGate.2.1 181 = .ok (.invokestatic 97, 3) := by decide +kernel
theorem d_V_fillGate_184 : decode mi_V_fillGate.2.1 184 = .ok (.aload_n 0, 1) := by decide +kernel
theorem d_V_fillGate_185 : decode mi_V_fillGate.2.1 185 = .ok (.getfield 50, 3) := by decide +kernel
theorem d_V_fillGate_188 : decode mi_V_fillGate.2.1 188 = .ok (.iload 4, 2) := by decide +kernel
theorem d_V_fillGate_190 : decode mi_V_fillGate.2.1 190 = .ok (.iload_n 2, 1) := by decide +kernel
theorem d_V_fillGate_191 : decode mi_V_fillGate.2.1 191 = .ok (.lload 11, 2) := by decide +kernel
theorem d_V_fillGate_193 : decode mi_V_fillGate.2.1 193 = .ok (.lload 13, 2) := by decide +kernel
theorem d_V_fillGate_195 : decode mi_V_fillGate.2.1 195 = .ok (.lload 15, 2) := by decide +kernel
theorem d_V_fillGate_197 : decode mi_V_fillGate.2.1 197 = .ok (.lload 17, 2) := by decide +kernel
theorem d_V_fillGate_199 : decode mi_V_fillGate.2.1 199 = .ok (.invokestatic 127, 3) := by decide +kernel
theorem d_V_fillGate_202 : decode mi_V_fillGate.2.1 202 = .ok (.invokestatic 97, 3) := by decide +kernel
theorem d_V_fillGate_205 : decode mi_V_fillGate.2.1 205 = .ok (.iinc 3 (1), 3) := by decide +kernel
theorem d_V_fillGate_208 : decode mi_V_fillGate.2.1 208 = .ok (.goto (-197), 3) := by decide +kernel
theorem d_V_fillGate_211 : decode mi_V_fillGate.2.1 211 = .ok (.return_, 1) := by decide +kernel
theorem s_V_fillGate_1 : kGet TT cl6 X mi_V_fillGate 1 3 0 := k_get (index := 9) cK_3 d_V_fillGate_1 (by decide) ⟨"Miterhouse$Values", Or.inl t_3_126, Or.inl rfl⟩
theorem s_V_fillGate_5 : kCall TT cl6 X mi_V_fillGate 5 3 mi_N_kindOf 2 2 1 := k_virtual (index := 109) d_V_fillGate_5 cs_N_kindOf rfl rfl t_5_15 t_2_179 t_2_180
theorem s_V_fillGate_13 : kGet TT cl6 X mi_V_fillGate 13 3 2 := k_get (index := 34) cK_3 d_V_fillGate_13 (by decide) ⟨"Miterhouse$Values", Or.inl t_3_132, Or.inl rfl⟩
theorem s_V_fillGate_21 : kGet TT cl6 X mi_V_fillGate 21 3 2 := k_get (index := 34) cK_3 d_V_fillGate_21 (by decide) ⟨"Miterhouse$Values", Or.inl t_3_132, Or.inl rfl⟩
theorem s_V_fillGate_30 : kGet TT cl6 X mi_V_fillGate 30 3 0 := k_get (index := 9) cK_3 d_V_fillGate_30 (by decide) ⟨"Miterhouse$Values", Or.inl t_3_126, Or.inl rfl⟩
theorem s_V_fillGate_34 : kCall TT cl6 X mi_V_fillGate 34 3 mi_N_oneOfPins 2 2 1 := k_virtual (index := 113) d_V_fillGate_34 cs_N_oneOfPins rfl rfl t_5_16 t_5_17 t_5_18
theorem s_V_fillGate_38 : kGet TT cl6 X mi_V_fillGate 38 3 2 := k_get (index := 34) cK_3 d_V_fillGate_38 (by decide) ⟨"Miterhouse$Values", Or.inl t_3_132, Or.inl rfl⟩
theorem s_V_fillGate_47 : kGet TT cl6 X mi_V_fillGate 47 3 0 := k_get (index := 9) cK_3 d_V_fillGate_47 (by decide) ⟨"Miterhouse$Values", Or.inl t_3_126, Or.inl rfl⟩
theorem s_V_fillGate_51 : kCall TT cl6 X mi_V_fillGate 51 3 mi_N_twoOfPins 2 2 1 := k_virtual (index := 116) d_V_fillGate_51 cs_N_twoOfPins rfl rfl t_5_20 t_5_21 t_5_22
theorem s_V_fillGate_55 : kGet TT cl6 X mi_V_fillGate 55 3 2 := k_get (index := 34) cK_3 d_V_fillGate_55 (by decide) ⟨"Miterhouse$Values", Or.inl t_3_132, Or.inl rfl⟩
theorem s_V_fillGate_64 : kGet TT cl6 X mi_V_fillGate 64 3 4 := k_get (index := 46) cK_3 d_V_fillGate_64 (by decide) ⟨"Miterhouse$Values", Or.inl t_3_137, Or.inl rfl⟩
theorem s_V_fillGate_69 : kCall TT cl6 X mi_V_fillGate 69 3 mi_M_wordAt 4 2 0 := k_staticN (index := 119) d_V_fillGate_69 cs_M_wordAt rfl t_1_153 t_1_154
theorem s_V_fillGate_75 : kGet TT cl6 X mi_V_fillGate 75 3 4 := k_get (index := 46) cK_3 d_V_fillGate_75 (by decide) ⟨"Miterhouse$Values", Or.inl t_3_137, Or.inl rfl⟩
theorem s_V_fillGate_80 : kCall TT cl6 X mi_V_fillGate 80 3 mi_M_wordAt 4 2 0 := k_staticN (index := 119) d_V_fillGate_80 cs_M_wordAt rfl t_1_153 t_1_154
theorem s_V_fillGate_86 : kGet TT cl6 X mi_V_fillGate 86 3 4 := k_get (index := 46) cK_3 d_V_fillGate_86 (by decide) ⟨"Miterhouse$Values", Or.inl t_3_137, Or.inl rfl⟩
theorem s_V_fillGate_96 : kPush TT cl6 X mi_V_fillGate 96 3 (.long (Int64.ofInt (-1))) := k_ldc2 (index := 37) d_V_fillGate_96 t_3_125
theorem s_V_fillGate_104 : kPush TT cl6 X mi_V_fillGate 104 3 (.long (Int64.ofInt (-1))) := k_ldc2 (index := 37) d_V_fillGate_104 t_3_125
theorem s_V_fillGate_108 : kCall TT cl6 X mi_V_fillGate 108 3 mi_M_oneOf 4 5 0 := k_staticN (index := 123) d_V_fillGate_108 cs_M_oneOf rfl t_5_24 t_5_25
theorem s_V_fillGate_112 : kGet TT cl6 X mi_V_fillGate 112 3 3 := k_get (index := 39) cK_3 d_V_fillGate_112 (by decide) ⟨"Miterhouse$Values", Or.inl t_3_135, Or.inl rfl⟩
theorem s_V_fillGate_116 : kCall TT cl6 X mi_V_fillGate 116 3 mi_M_putWord 4 3 0 := k_staticN (index := 97) d_V_fillGate_116 cs_M_putWord rfl t_5_27 t_1_233
theorem s_V_fillGate_120 : kGet TT cl6 X mi_V_fillGate 120 3 6 := k_get (index := 53) cK_3 d_V_fillGate_120 (by decide) ⟨"Miterhouse$Values", Or.inl t_3_139, Or.inl rfl⟩
theorem s_V_fillGate_125 : kCall TT cl6 X mi_V_fillGate 125 3 mi_M_wordAt 4 2 0 := k_staticN (index := 119) d_V_fillGate_125 cs_M_wordAt rfl t_1_153 t_1_154
theorem s_V_fillGate_131 : kGet TT cl6 X mi_V_fillGate 131 3 5 := k_get (index := 50) cK_3 d_V_fillGate_131 (by decide) ⟨"Miterhouse$Values", Or.inl t_3_138, Or.inl rfl⟩
theorem s_V_fillGate_136 : kCall TT cl6 X mi_V_fillGate 136 3 mi_M_wordAt 4 2 0 := k_staticN (index := 119) d_V_fillGate_136 cs_M_wordAt rfl t_1_153 t_1_154
theorem s_V_fillGate_142 : kGet TT cl6 X mi_V_fillGate 142 3 6 := k_get (index := 53) cK_3 d_V_fillGate_142 (by decide) ⟨"Miterhouse$Values", Or.inl t_3_139, Or.inl rfl⟩
theorem s_V_fillGate_147 : kCall TT cl6 X mi_V_fillGate 147 3 mi_M_wordAt 4 2 0 := k_staticN (index := 119) d_V_fillGate_147 cs_M_wordAt rfl t_1_153 t_1_154
theorem s_V_fillGate_153 : kGet TT cl6 X mi_V_fillGate 153 3 5 := k_get (index := 50) cK_3 d_V_fillGate_153 (by decide) ⟨"Miterhouse$Values", Or.inl t_3_138, Or.inl rfl⟩
theorem s_V_fillGate_158 : kCall TT cl6 X mi_V_fillGate 158 3 mi_M_wordAt 4 2 0 := k_staticN (index := 119) d_V_fillGate_158 cs_M_wordAt rfl t_1_153 t_1_154
theorem s_V_fillGate_164 : kGet TT cl6 X mi_V_fillGate 164 3 6 := k_get (index := 53) cK_3 d_V_fillGate_164 (by decide) ⟨"Miterhouse$Values", Or.inl t_3_139, Or.inl rfl⟩
theorem s_V_fillGate_178 : kCall TT cl6 X mi_V_fillGate 178 3 mi_M_oneOf 4 5 0 := k_staticN (index := 123) d_V_fillGate_178 cs_M_oneOf rfl t_5_24 t_5_25
theorem s_V_fillGate_181 : kCall TT cl6 X mi_V_fillGate 181 3 mi_M_putWord 4 3 0 := k_staticN (index := 97) d_V_fillGate_181 cs_M_putWord rfl t_5_27 t_1_233
theorem s_V_fillGate_185 : kGet TT cl6 X mi_V_fillGate 185 3 5 := k_get (index := 50) cK_3 d_V_fillGate_185 (by decide) ⟨"Miterhouse$Values", Or.inl t_3_138, Or.inl rfl⟩
theorem s_V_fillGate_199 : kCall TT cl6 X mi_V_fillGate 199 3 mi_M_zeroOf 4 5 0 := k_staticN (index := 127) d_V_fillGate_199 cs_M_zeroOf rfl t_5_28 t_5_29
theorem s_V_fillGate_202 : kCall TT cl6 X mi_V_fillGate 202 3 mi_M_putWord 4 3 0 := k_staticN (index := 97) d_V_fillGate_202 cs_M_putWord rfl t_5_27 t_1_233
theorem d_V_fillSource_0 : decode mi_V_fillSource.2.1 0 = .ok (.iconst (0), 1) := by decide +kernel
theorem d_V_fillSource_1 : decode mi_V_fillSource.2.1 1 = .ok (.istore_n 3, 1) := by decide +kernel
theorem d_V_fillSource_2 : decode mi_V_fillSource.2.1 2 = .ok (.iload_n 3, 1) := by decide +kernel
theorem d_V_fillSource_3 : decode mi_V_fillSource.2.1 3 = .ok (.aload_n 0, 1) := by decide +kernel
theorem d_V_fillSource_4 : decode mi_V_fillSource.2.1 4 = .ok (.getfield 34, 3) := by decide +kernel
theorem d_V_fillSource_7 : decode mi_V_fillSource.2.1 7 = .ok (.if_icmp .ge (149), 3) := by decide +kernel
theorem d_V_fillSource_10 : decode mi_V_fillSource.2.1 10 = .ok (.iload_n 1, 1) := by decide +kernel
theorem d_V_fillSource_11 : decode mi_V_fillSource.2.1 11 = .ok (.aload_n 0, 1) := by decide +kernel
theorem d_V_fillSource_12 : decode mi_V_fillSource.2.1 12 = .ok (.getfield 34, 3) := by decide +kernel
theorem d_V_fillSource_15 : decode mi_V_fillSource.2.1 15 = .ok (.imul, 1) := by decide +kernel
theorem d_V_fillSource_16 : decode mi_V_fillSource.2.1 16 = .ok (.iload_n 3, 1) := by decide +kernel
theorem d_V_fillSource_17 : decode mi_V_fillSource.2.1 17 = .ok (.iadd, 1) := by decide +kernel
theorem d_V_fillSource_18 : decode mi_V_fillSource.2.1 18 = .ok (.istore 4, 2) := by decide +kernel
theorem d_V_fillSource_20 : decode mi_V_fillSource.2.1 20 = .ok (.aload_n 0, 1) := by decide +kernel
theorem d_V_fillSource_21 : decode mi_V_fillSource.2.1 21 = .ok (.getfield 46, 3) := by decide +kernel
theorem d_V_fillSource_24 : decode mi_V_fillSource.2.1 24 = .ok (.iload 4, 2) := by decide +kernel
theorem d_V_fillSource_26 : decode mi_V_fillSource.2.1 26 = .ok (.aload_n 0, 1) := by decide +kernel
theorem d_V_fillSource_27 : decode mi_V_fillSource.2.1 27 = .ok (.getfield 30, 3) := by decide +kernel
theorem d_V_fillSource_30 : decode mi_V_fillSource.2.1 30 = .ok (.iconst (1), 1) := by decide +kernel
theorem d_V_fillSource_31 : decode mi_V_fillSource.2.1 31 = .ok (.isub, 1) := by decide +kernel
theorem d_V_fillSource_32 : decode mi_V_fillSource.2.1 32 = .ok (.iload_n 2, 1) := by decide +kernel
theorem d_V_fillSource_33 : decode mi_V_fillSource.2.1 33 = .ok (.isub, 1) := by decide +kernel
theorem d_V_fillSource_34 : decode mi_V_fillSource.2.1 34 = .ok (.iload_n 3, 1) := by decide +kernel
theorem d_V_fillSource_35 : decode mi_V_fillSource.2.1 35 = .ok (.invokestatic 93, 3) := by decide +kernel
theorem d_V_fillSource_38 : decode mi_V_fillSource.2.1 38 = .ok (.aload_n 0, 1) := by decide +kernel
theorem d_V_fillSource_39 : decode mi_V_fillSource.2.1 39 = .ok (.getfield 39, 3) := by decide +kernel
theorem d_V_fillSource_42 : decode mi_V_fillSource.2.1 42 = .ok (.land, 1) := by decide +kernel
theorem d_V_fillSource_43 : decode mi_V_fillSource.2.1 43 = .ok (.invokestatic 97, 3) := by decide +kernel
theorem d_V_fillSource_46 : decode mi_V_fillSource.2.1 46 = .ok (.iconst (5), 1) := by decide +kernel
theorem d_V_fillSource_47 : decode mi_V_fillSource.2.1 47 = .ok (.istore 5, 2) := by decide +kernel
theorem d_V_fillSource_49 : decode mi_V_fillSource.2.1 49 = .ok (.iload_n 3, 1) := by decide +kernel
theorem d_V_fillSource_50 : decode mi_V_fillSource.2.1 50 = .ok (.istore 6, 2) := by decide +kernel
theorem d_V_fillSource_52 : decode mi_V_fillSource.2.1 52 = .ok (.iload 6, 2) := by decide +kernel
theorem d_V_fillSource_54 : decode mi_V_fillSource.2.1 54 = .ok (.ifCond .le (15), 3) := by decide +kernel
theorem d_V_fillSource_57 : decode mi_V_fillSource.2.1 57 = .ok (.iinc 5 (1), 3) := by decide +kernel
theorem d_V_fillSource_60 : decode mi_V_fillSource.2.1 60 = .ok (.iload 6, 2) := by decide +kernel
theorem d_V_fillSource_62 : decode mi_V_fillSource.2.1 62 = .ok (.iconst (1), 1) := by decide +kernel
theorem d_V_fillSource_63 : decode mi_V_fillSource.2.1 63 = .ok (.ishr, 1) := by decide +kernel
theorem d_V_fillSource_64 : decode mi_V_fillSource.2.1 64 = .ok (.istore 6, 2) := by decide +kernel
theorem d_V_fillSource_66 : decode mi_V_fillSource.2.1 66 = .ok (.goto (-14), 3) := by decide +kernel
theorem d_V_fillSource_69 : decode mi_V_fillSource.2.1 69 = .ok (.iload_n 3, 1) := by decide +kernel
theorem d_V_fillSource_70 : decode mi_V_fillSource.2.1 70 = .ok (.ifCond .ne (36), 3) := by decide +kernel
theorem d_V_fillSource_73 : decode mi_V_fillSource.2.1 73 = .ok (.aload_n 0, 1) := by decide +kernel
theorem d_V_fillSource_74 : decode mi_V_fillSource.2.1 74 = .ok (.getfield 53, 3) := by decide +kernel
theorem d_V_fillSource_77 : decode mi_V_fillSource.2.1 77 = .ok (.iload 4, 2) := by decide +kernel
theorem d_V_fillSource_79 : decode mi_V_fillSource.2.1 79 = .ok (.iload_n 2, 1) := by decide +kernel
theorem d_V_fillSource_80 : decode mi_V_fillSource.2.1 80 = .ok (.lconst 0, 1) := by decide +kernel
theorem d_V_fillSource_81 : decode mi_V_fillSource.2.1 81 = .ok (.invokestatic 101, 3) := by decide +kernel
theorem d_V_fillSource_84 : decode mi_V_fillSource.2.1 84 = .ok (.invokestatic 97, 3) := by decide +kernel
theorem d_V_fillSource_87 : decode mi_V_fillSource.2.1 87 = .ok (.aload_n 0, 1) := by decide +kernel
theorem d_V_fillSource_88 : decode mi_V_fillSource.2.1 88 = .ok (.getfield 50, 3) := by decide +kernel
theorem d_V_fillSource_91 : decode mi_V_fillSource.2.1 91 = .ok (.iload 4, 2) := by decide +kernel
theorem d_V_fillSource_93 : decode mi_V_fillSource.2.1 93 = .ok (.iload_n 2, 1) := by decide +kernel
theorem d_V_fillSource_94 : decode mi_V_fillSource.2.1 94 = .ok (.ldc2_w 37, 3) := by decide +kernel
theorem d_V_fillSource_97 : decode mi_V_fillSource.2.1 97 = .ok (.invokestatic 101, 3) := by decide +kernel
theorem d_V_fillSource_100 : decode mi_V_fillSource.2.1 100 = .ok (.invokestatic 97, 3) := by decide +kernel
theorem d_V_fillSource_103 : decode mi_V_fillSource.2.1 103 = .ok (.goto (47), 3) := by decide +kernel
theorem d_V_fillSource_106 : decode mi_V_fillSource.2.1 106 = .ok (.iload 5, 2) := by decide +kernel
theorem d_V_fillSource_108 : decode mi_V_fillSource.2.1 108 = .ok (.iload_n 2, 1) := by decide +kernel
theorem d_V_fillSource_109 : decode mi_V_fillSource.2.1 109 = .ok (.if_icmp .le (41), 3) := by decide +kernel
theorem d_V_fillSource_112 : decode mi_V_fillSource.2.1 112 = .ok (.iload 5, 2) := by decide +kernel
theorem d_V_fillSource_114 : decode mi_V_fillSource.2.1 114 = .ok (.iconst (1), 1) := by decide +kernel
theorem d_V_fillSource_115 : decode mi_V_fillSource.2.1 115 = .ok (.isub, 1) := by decide +kernel
theorem d_V_fillSource_116 : decode mi_V_fillSource.2.1 116 = .ok (.iload_n 2, 1) := by decide +kernel
theorem d_V_fillSource_117 : decode mi_V_fillSource.2.1 117 = .ok (.isub, 1) := by decide +kernel
theorem d_V_fillSource_118 : decode mi_V_fillSource.2.1 118 = .ok (.iload_n 3, 1) := by decide +kernel
theorem d_V_fillSource_119 : decode mi_V_fillSource.2.1 119 = .ok (.invokestatic 93, 3) := by decide +kernel
theorem d_V_fillSource_122 : decode mi_V_fillSource.2.1 122 = .ok (.lstore 6, 2) := by decide +kernel
theorem d_V_fillSource_124 : decode mi_V_fillSource.2.1 124 = .ok (.aload_n 0, 1) := by decide +kernel
theorem d_V_fillSource_125 : decode mi_V_fillSource.2.1 125 = .ok (.getfield 53, 3) := by decide +kernel
theorem d_V_fillSource_128 : decode mi_V_fillSource.2.1 128 = .ok (.iload 4, 2) := by decide +kernel
theorem d_V_fillSource_130 : decode mi_V_fillSource.2.1 130 = .ok (.lload 6, 2) := by decide +kernel
theorem d_V_fillSource_132 : decode mi_V_fillSource.2.1 132 = .ok (.invokestatic 97, 3) := by decide +kernel
theorem d_V_fillSource_135 : decode mi_V_fillSource.2.1 135 = .ok (.aload_n 0, 1) := by decide +kernel
theorem d_V_fillSource_136 : decode mi_V_fillSource.2.1 136 = .ok (.getfield 50, 3) := by decide +kernel
theorem d_V_fillSource_139 : decode mi_V_fillSource.2.1 139 = .ok (.iload 4, 2) := by decide +kernel
theorem d_V_fillSource_141 : decode mi_V_fillSource.2.1 141 = .ok (.lload 6, 2) := by decide +kernel
theorem d_V_fillSource_143 : decode mi_V_fillSource.2.1 143 = .ok (.ldc2_w 37, 3) := by decide +kernel
theorem d_V_fillSource_146 : decode mi_V_fillSource.2.1 146 = .ok (.lxor, 1) := by decide +kernel
theorem d_V_fillSource_147 : decode mi_V_fillSource.2.1 147 = .ok (.invokestatic 97, 3) := by decide +kernel
theorem d_V_fillSource_150 : decode mi_V_fillSource.2.1 150 = .ok (.iinc 3 (1), 3) := by decide +kernel
theorem d_V_fillSource_153 : decode mi_V_fillSource.2.1 153 = .ok (.goto (-151), 3) := by decide +kernel
theorem d_V_fillSource_156 : decode mi_V_fillSource.2.1 156 = .ok (.return_, 1) := by decide +kernel
theorem s_V_fillSource_4 : kGet TT cl6 X mi_V_fillSource 4 3 2 := k_get (index := 34) cK_3 d_V_fillSource_4 (by decide) ⟨"Miterhouse$Values", Or.inl t_3_132, Or.inl rfl⟩
theorem s_V_fillSource_12 : kGet TT cl6 X mi_V_fillSource 12 3 2 := k_get (index := 34) cK_3 d_V_fillSource_12 (by decide) ⟨"Miterhouse$Values", Or.inl t_3_132, Or.inl rfl⟩
theorem s_V_fillSource_21 : kGet TT cl6 X mi_V_fillSource 21 3 4 := k_get (index := 46) cK_3 d_V_fillSource_21 (by decide) ⟨"Miterhouse$Values", Or.inl t_3_137, Or.inl rfl⟩
theorem s_V_fillSource_27 : kGet TT cl6 X mi_V_fillSource 27 3 1 := k_get (index := 30) cK_3 d_V_fillSource_27 (by decide) ⟨"Miterhouse$Values", Or.inl t_3_129, Or.inl rfl⟩
theorem s_V_fillSource_35 : kCall TT cl6 X mi_V_fillSource 35 3 mi_V_bitOfIndex 1 2 0 := k_static (index := 93) d_V_fillSource_35 cs_V_bitOfIndex t_5_41 t_5_42
theorem s_V_fillSource_39 : kGet TT cl6 X mi_V_fillSource 39 3 3 := k_get (index := 39) cK_3 d_V_fillSource_39 (by decide) ⟨"Miterhouse$Values", Or.inl t_3_135, Or.inl rfl⟩
theorem s_V_fillSource_43 : kCall TT cl6 X mi_V_fillSource 43 3 mi_M_putWord 4 3 0 := k_staticN (index := 97) d_V_fillSource_43 cs_M_putWord rfl t_5_27 t_1_233
theorem s_V_fillSource_74 : kGet TT cl6 X mi_V_fillSource 74 3 6 := k_get (index := 53) cK_3 d_V_fillSource_74 (by decide) ⟨"Miterhouse$Values", Or.inl t_3_139, Or.inl rfl⟩
theorem s_V_fillSource_81 : kCall TT cl6 X mi_V_fillSource 81 3 mi_V_upperTree 1 2 0 := k_static (index := 101) d_V_fillSource_81 cs_V_upperTree t_5_49 t_5_50
theorem s_V_fillSource_84 : kCall TT cl6 X mi_V_fillSource 84 3 mi_M_putWord 4 3 0 := k_staticN (index := 97) d_V_fillSource_84 cs_M_putWord rfl t_5_27 t_1_233
theorem s_V_fillSource_88 : kGet TT cl6 X mi_V_fillSource 88 3 5 := k_get (index := 50) cK_3 d_V_fillSource_88 (by decide) ⟨"Miterhouse$Values", Or.inl t_3_138, Or.inl rfl⟩
theorem s_V_fillSource_94 : kPush TT cl6 X mi_V_fillSource 94 3 (.long (Int64.ofInt (-1))) := k_ldc2 (index := 37) d_V_fillSource_94 t_3_125
theorem s_V_fillSource_97 : kCall TT cl6 X mi_V_fillSource 97 3 mi_V_upperTree 1 2 0 := k_static (index := 101) d_V_fillSource_97 cs_V_upperTree t_5_49 t_5_50
theorem s_V_fillSource_100 : kCall TT cl6 X mi_V_fillSource 100 3 mi_M_putWord 4 3 0 := k_staticN (index := 97) d_V_fillSource_100 cs_M_putWord rfl t_5_27 t_1_233
theorem s_V_fillSource_119 : kCall TT cl6 X mi_V_fillSource 119 3 mi_V_bitOfIndex 1 2 0 := k_static (index := 93) d_V_fillSource_119 cs_V_bitOfIndex t_5_41 t_5_42
theorem s_V_fillSource_125 : kGet TT cl6 X mi_V_fillSource 125 3 6 := k_get (index := 53) cK_3 d_V_fillSource_125 (by decide) ⟨"Miterhouse$Values", Or.inl t_3_139, Or.inl rfl⟩
theorem s_V_fillSource_132 : kCall TT cl6 X mi_V_fillSource 132 3 mi_M_putWord 4 3 0 := k_staticN (index := 97) d_V_fillSource_132 cs_M_putWord rfl t_5_27 t_1_233
theorem s_V_fillSource_136 : kGet TT cl6 X mi_V_fillSource 136 3 5 := k_get (index := 50) cK_3 d_V_fillSource_136 (by decide) ⟨"Miterhouse$Values", Or.inl t_3_138, Or.inl rfl⟩
theorem s_V_fillSource_143 : kPush TT cl6 X mi_V_fillSource 143 3 (.long (Int64.ofInt (-1))) := k_ldc2 (index := 37) d_V_fillSource_143 t_3_125
theorem s_V_fillSource_147 : kCall TT cl6 X mi_V_fillSource 147 3 mi_M_putWord 4 3 0 := k_staticN (index := 97) d_V_fillSource_147 cs_M_putWord rfl t_5_27 t_1_233
theorem d_V_heldWord_0 : decode mi_V_heldWord.2.1 0 = .ok (.aload_n 0, 1) := by decide +kernel
theorem d_V_heldWord_1 : decode mi_V_heldWord.2.1 1 = .ok (.getfield 46, 3) := by decide +kernel
theorem d_V_heldWord_4 : decode mi_V_heldWord.2.1 4 = .ok (.iload_n 1, 1) := by decide +kernel
theorem d_V_heldWord_5 : decode mi_V_heldWord.2.1 5 = .ok (.aload_n 0, 1) := by decide +kernel
theorem d_V_heldWord_6 : decode mi_V_heldWord.2.1 6 = .ok (.getfield 34, 3) := by decide +kernel
theorem d_V_heldWord_9 : decode mi_V_heldWord.2.1 9 = .ok (.imul, 1) := by decide +kernel
theorem d_V_heldWord_10 : decode mi_V_heldWord.2.1 10 = .ok (.iload_n 2, 1) := by decide +kernel
theorem d_V_heldWord_11 : decode mi_V_heldWord.2.1 11 = .ok (.iadd, 1) := by decide +kernel
theorem d_V_heldWord_12 : decode mi_V_heldWord.2.1 12 = .ok (.invokestatic 119, 3) := by decide +kernel
theorem d_V_heldWord_15 : decode mi_V_heldWord.2.1 15 = .ok (.lreturn, 1) := by decide +kernel
theorem s_V_heldWord_1 : kGet TT cl6 X mi_V_heldWord 1 3 4 := k_get (index := 46) cK_3 d_V_heldWord_1 (by decide) ⟨"Miterhouse$Values", Or.inl t_3_137, Or.inl rfl⟩
theorem s_V_heldWord_6 : kGet TT cl6 X mi_V_heldWord 6 3 2 := k_get (index := 34) cK_3 d_V_heldWord_6 (by decide) ⟨"Miterhouse$Values", Or.inl t_3_132, Or.inl rfl⟩
theorem s_V_heldWord_12 : kCall TT cl6 X mi_V_heldWord 12 3 mi_M_wordAt 4 2 0 := k_staticN (index := 119) d_V_heldWord_12 cs_M_wordAt rfl t_1_153 t_1_154
theorem d_V_isKept_0 : decode mi_V_isKept.2.1 0 = .ok (.aload_n 0, 1) := by decide +kernel
theorem d_V_isKept_1 : decode mi_V_isKept.2.1 1 = .ok (.iload_n 1, 1) := by decide +kernel
theorem d_V_isKept_2 : decode mi_V_isKept.2.1 2 = .ok (.invokevirtual 131, 3) := by decide +kernel
theorem d_V_isKept_5 : decode mi_V_isKept.2.1 5 = .ok (.istore_n 2, 1) := by decide +kernel
theorem d_V_isKept_6 : decode mi_V_isKept.2.1 6 = .ok (.aload_n 0, 1) := by decide +kernel
theorem d_V_isKept_7 : decode mi_V_isKept.2.1 7 = .ok (.iload_n 2, 1) := by decide +kernel
theorem d_V_isKept_8 : decode mi_V_isKept.2.1 8 = .ok (.bipush (6), 2) := by decide +kernel
theorem d_V_isKept_10 : decode mi_V_isKept.2.1 10 = .ok (.ishr, 1) := by decide +kernel
theorem d_V_isKept_11 : decode mi_V_isKept.2.1 11 = .ok (.invokevirtual 134, 3) := by decide +kernel
theorem d_V_isKept_14 : decode mi_V_isKept.2.1 14 = .ok (.iload_n 2, 1) := by decide +kernel
theorem d_V_isKept_15 : decode mi_V_isKept.2.1 15 = .ok (.bipush (63), 2) := by decide +kernel
theorem d_V_isKept_17 : decode mi_V_isKept.2.1 17 = .ok (.iand, 1) := by decide +kernel
theorem d_V_isKept_18 : decode mi_V_isKept.2.1 18 = .ok (.lushr, 1) := by decide +kernel
theorem d_V_isKept_19 : decode mi_V_isKept.2.1 19 = .ok (.lconst 1, 1) := by decide +kernel
theorem d_V_isKept_20 : decode mi_V_isKept.2.1 20 = .ok (.land, 1) := by decide +kernel
theorem d_V_isKept_21 : decode mi_V_isKept.2.1 21 = .ok (.lconst 0, 1) := by decide +kernel
theorem d_V_isKept_22 : decode mi_V_isKept.2.1 22 = .ok (.lcmp, 1) := by decide +kernel
theorem d_V_isKept_23 : decode mi_V_isKept.2.1 23 = .ok (.ifCond .eq (7), 3) := by decide +kernel
theorem d_V_isKept_26 : decode mi_V_isKept.2.1 26 = .ok (.iconst (1), 1) := by decide +kernel
theorem d_V_isKept_27 : decode mi_V_isKept.2.1 27 = .ok (.goto (4), 3) := by decide +kernel
theorem d_V_isKept_30 : decode mi_V_isKept.2.1 30 = .ok (.iconst (0), 1) := by decide +kernel
theorem d_V_isKept_31 : decode mi_V_isKept.2.1 31 = .ok (.ireturn, 1) := by decide +kernel
theorem s_V_isKept_2 : kCall TT cl6 X mi_V_isKept 2 3 mi_V_mirrored 2 2 3 := k_virtual (index := 131) d_V_isKept_2 cs_V_mirrored rfl rfl t_1_148 t_1_149 t_1_150
theorem s_V_isKept_11 : kCall TT cl6 X mi_V_isKept 11 3 mi_V_keptWord 2 2 3 := k_virtual (index := 134) d_V_isKept_11 cs_V_keptWord rfl rfl t_2_56 t_2_20 t_2_21
theorem d_V_keepAlso_0 : decode mi_V_keepAlso.2.1 0 = .ok (.iconst (0), 1) := by decide +kernel
theorem d_V_keepAlso_1 : decode mi_V_keepAlso.2.1 1 = .ok (.istore_n 2, 1) := by decide +kernel
theorem d_V_keepAlso_2 : decode mi_V_keepAlso.2.1 2 = .ok (.iload_n 2, 1) := by decide +kernel
theorem d_V_keepAlso_3 : decode mi_V_keepAlso.2.1 3 = .ok (.aload_n 0, 1) := by decide +kernel
theorem d_V_keepAlso_4 : decode mi_V_keepAlso.2.1 4 = .ok (.getfield 34, 3) := by decide +kernel
theorem d_V_keepAlso_7 : decode mi_V_keepAlso.2.1 7 = .ok (.if_icmp .ge (61), 3) := by decide +kernel
theorem d_V_keepAlso_10 : decode mi_V_keepAlso.2.1 10 = .ok (.aload_n 0, 1) := by decide +kernel
theorem d_V_keepAlso_11 : decode mi_V_keepAlso.2.1 11 = .ok (.getfield 56, 3) := by decide +kernel
theorem d_V_keepAlso_14 : decode mi_V_keepAlso.2.1 14 = .ok (.iload_n 2, 1) := by decide +kernel
theorem d_V_keepAlso_15 : decode mi_V_keepAlso.2.1 15 = .ok (.aload_n 0, 1) := by decide +kernel
theorem d_V_keepAlso_16 : decode mi_V_keepAlso.2.1 16 = .ok (.iload_n 2, 1) := by decide +kernel
theorem d_V_keepAlso_17 : decode mi_V_keepAlso.2.1 17 = .ok (.invokevirtual 134, 3) := by decide +kernel
theorem d_V_keepAlso_20 : decode mi_V_keepAlso.2.1 20 = .ok (.aload_n 0, 1) := by decide +kernel
theorem d_V_keepAlso_21 : decode mi_V_keepAlso.2.1 21 = .ok (.iload_n 1, 1) := by decide +kernel
theorem d_V_keepAlso_22 : decode mi_V_keepAlso.2.1 22 = .ok (.iload_n 2, 1) := by decide +kernel
theorem d_V_keepAlso_23 : decode mi_V_keepAlso.2.1 23 = .ok (.invokevirtual 137, 3) := by decide +kernel
theorem d_V_keepAlso_26 : decode mi_V_keepAlso.2.1 26 = .ok (.land, 1) := by decide +kernel
theorem d_V_keepAlso_27 : decode mi_V_keepAlso.2.1 27 = .ok (.invokestatic 97, 3) := by decide +kernel
theorem d_V_keepAlso_30 : decode mi_V_keepAlso.2.1 30 = .ok (.aload_n 0, 1) := by decide +kernel
theorem d_V_keepAlso_31 : decode mi_V_keepAlso.2.1 31 = .ok (.getfield 59, 3) := by decide +kernel
theorem d_V_keepAlso_34 : decode mi_V_keepAlso.2.1 34 = .ok (.iload_n 2, 1) := by decide +kernel
theorem d_V_keepAlso_35 : decode mi_V_keepAlso.2.1 35 = .ok (.aload_n 0, 1) := by decide +kernel
theorem d_V_keepAlso_36 : decode mi_V_keepAlso.2.1 36 = .ok (.getfield 59, 3) := by decide +kernel
theorem d_V_keepAlso_39 : decode mi_V_keepAlso.2.1 39 = .ok (.iload_n 2, 1) := by decide +kernel
theorem d_V_keepAlso_40 : decode mi_V_keepAlso.2.1 40 = .ok (.invokestatic 119, 3) := by decide +kernel
theorem d_V_keepAlso_43 : decode mi_V_keepAlso.2.1 43 = .ok (.aload_n 0, 1) := by decide +kernel
theorem d_V_keepAlso_44 : decode mi_V_keepAlso.2.1 44 = .ok (.getfield 50, 3) := by decide +kernel
theorem d_V_keepAlso_47 : decode mi_V_keepAlso.2.1 47 = .ok (.iload_n 1, 1) := by decide +kernel
theorem d_V_keepAlso_48 : decode mi_V_keepAlso.2.1 48 = .ok (.aload_n 0, 1) := by decide +kernel
theorem d_V_keepAlso_49 : decode mi_V_keepAlso.2.1 49 = .ok (.getfield 34, 3) := by decide +kernel
theorem d_V_keepAlso_52 : decode mi_V_keepAlso.2.1 52 = .ok (.imul, 1) := by decide +kernel
theorem d_V_keepAlso_53 : decode mi_V_keepAlso.2.1 53 = .ok (.iload_n 2, 1) := by decide +kernel
theorem d_V_keepAlso_54 : decode mi_V_keepAlso.2.1 54 = .ok (.iadd, 1) := by decide +kernel
theorem d_V_keepAlso_55 : decode mi_V_keepAlso.2.1 55 = .ok (.invokestatic 119, 3) := by decide +kernel
theorem d_V_keepAlso_58 : decode mi_V_keepAlso.2.1 58 = .ok (.lor, 1) := by decide +kernel
theorem d_V_keepAlso_59 : decode mi_V_keepAlso.2.1 59 = .ok (.invokestatic 97, 3) := by decide +kernel
theorem d_V_keepAlso_62 : decode mi_V_keepAlso.2.1 62 = .ok (.iinc 2 (1), 3) := by decide +kernel
theorem d_V_keepAlso_65 : decode mi_V_keepAlso.2.1 65 = .ok (.goto (-63), 3) := by decide +kernel
theorem d_V_keepAlso_68 : decode mi_V_keepAlso.2.1 68 = .ok (.aload_n 0, 1) := by decide +kernel
theorem d_V_keepAlso_69 : decode mi_V_keepAlso.2.1 69 = .ok (.dup, 1) := by decide +kernel
theorem d_V_keepAlso_70 : decode mi_V_keepAlso.2.1 70 = .ok (.getfield 62, 3) := by decide +kernel
theorem d_V_keepAlso_73 : decode mi_V_keepAlso.2.1 73 = .ok (.iconst (1), 1) := by decide +kernel
theorem d_V_keepAlso_74 : decode mi_V_keepAlso.2.1 74 = .ok (.iadd, 1) := by decide +kernel
theorem d_V_keepAlso_75 : decode mi_V_keepAlso.2.1 75 = .ok (.putfield 62, 3) := by decide +kernel
theorem d_V_keepAlso_78 : decode mi_V_keepAlso.2.1 78 = .ok (.aload_n 0, 1) := by decide +kernel
theorem d_V_keepAlso_79 : decode mi_V_keepAlso.2.1 79 = .ok (.aload_n 0, 1) := by decide +kernel
theorem d_V_keepAlso_80 : decode mi_V_keepAlso.2.1 80 = .ok (.iload_n 1, 1) := by decide +kernel
theorem d_V_keepAlso_81 : decode mi_V_keepAlso.2.1 81 = .ok (.invokevirtual 146, 3) := by decide +kernel
theorem d_V_keepAlso_84 : decode mi_V_keepAlso.2.1 84 = .ok (.putfield 65, 3) := by decide +kernel
theorem d_V_keepAlso_87 : decode mi_V_keepAlso.2.1 87 = .ok (.aload_n 0, 1) := by decide +kernel
theorem d_V_keepAlso_88 : decode mi_V_keepAlso.2.1 88 = .ok (.lconst 0, 1) := by decide +kernel
theorem d_V_keepAlso_89 : decode mi_V_keepAlso.2.1 89 = .ok (.putfield 68, 3) := by decide +kernel
theorem d_V_keepAlso_92 : decode mi_V_keepAlso.2.1 92 = .ok (.iconst (0), 1) := by decide +kernel
theorem d_V_keepAlso_93 : decode mi_V_keepAlso.2.1 93 = .ok (.istore_n 2, 1) := by decide +kernel
theorem d_V_keepAlso_94 : decode mi_V_keepAlso.2.1 94 = .ok (.iload_n 2, 1) := by decide +kernel
theorem d_V_keepAlso_95 : decode mi_V_keepAlso.2.1 95 = .ok (.iconst (1), 1) := by decide +kernel
theorem d_V_keepAlso_96 : decode mi_V_keepAlso.2.1 96 = .ok (.aload_n 0, 1) := by decide +kernel
theorem d_V_keepAlso_97 : decode mi_V_keepAlso.2.1 97 = .ok (.getfield 9, 3) := by decide +kernel
theorem d_V_keepAlso_100 : decode mi_V_keepAlso.2.1 100 = .ok (.getfield 149, 3) := by decide +kernel
theorem d_V_keepAlso_103 : decode mi_V_keepAlso.2.1 103 = .ok (.ishl, 1) := by decide +kernel
theorem d_V_keepAlso_104 : decode mi_V_keepAlso.2.1 104 = .ok (.if_icmp .ge (29), 3) := by decide +kernel
theorem d_V_keepAlso_107 : decode mi_V_keepAlso.2.1 107 = .ok (.aload_n 0, 1) := by decide +kernel
theorem d_V_keepAlso_108 : decode mi_V_keepAlso.2.1 108 = .ok (.iload_n 2, 1) := by decide +kernel
theorem d_V_keepAlso_109 : decode mi_V_keepAlso.2.1 109 = .ok (.invokevirtual 152, 3) := by decide +kernel
theorem d_V_keepAlso_112 : decode mi_V_keepAlso.2.1 112 = .ok (.ifCond .eq (15), 3) := by decide +kernel
theorem d_V_keepAlso_115 : decode mi_V_keepAlso.2.1 115 = .ok (.aload_n 0, 1) := by decide +kernel
theorem d_V_keepAlso_116 : decode mi_V_keepAlso.2.1 116 = .ok (.dup, 1) := by decide +kernel
theorem d_V_keepAlso_117 : decode mi_V_keepAlso.2.1 117 = .ok (.getfield 68, 3) := by decide +kernel
theorem d_V_keepAlso_120 : decode mi_V_keepAlso.2.1 120 = .ok (.lconst 1, 1) := by decide +kernel
theorem d_V_keepAlso_121 : decode mi_V_keepAlso.2.1 121 = .ok (.iload_n 2, 1) := by decide +kernel
theorem d_V_keepAlso_122 : decode mi_V_keepAlso.2.1 122 = .ok (.lshl, 1) := by decide +kernel
theorem d_V_keepAlso_123 : decode mi_V_keepAlso.2.1 123 = .ok (.lor, 1) := by decide +kernel
theorem d_V_keepAlso_124 : decode mi_V_keepAlso.2.1 124 = .ok (.putfield 68, 3) := by decide +kernel
theorem d_V_keepAlso_127 : decode mi_V_keepAlso.2.1 127 = .ok (.iinc 2 (1), 3) := by decide +kernel
theorem d_V_keepAlso_130 : decode mi_V_keepAlso.2.1 130 = .ok (.goto (-36), 3) := by decide +kernel
theorem d_V_keepAlso_133 : decode mi_V_keepAlso.2.1 133 = .ok (.return_, 1) := by decide +kernel
theorem s_V_keepAlso_4 : kGet TT cl6 X mi_V_keepAlso 4 3 2 := k_get (index := 34) cK_3 d_V_keepAlso_4 (by decide) ⟨"Miterhouse$Values", Or.inl t_3_132, Or.inl rfl⟩
theorem s_V_keepAlso_11 : kGet TT cl6 X mi_V_keepAlso 11 3 7 := k_get (index := 56) cK_3 d_V_keepAlso_11 (by decide) ⟨"Miterhouse$Values", Or.inl t_3_140, Or.inl rfl⟩
theorem s_V_keepAlso_17 : kCall TT cl6 X mi_V_keepAlso 17 3 mi_V_keptWord 2 2 3 := k_virtual (index := 134) d_V_keepAlso_17 cs_V_keptWord rfl rfl t_2_56 t_2_20 t_2_21
theorem s_V_keepAlso_23 : kCall TT cl6 X mi_V_keepAlso 23 3 mi_V_heldWord 2 3 3 := k_virtual (index := 137) d_V_keepAlso_23 cs_V_heldWord rfl rfl t_5_108 t_1_229 t_1_230
theorem s_V_keepAlso_27 : kCall TT cl6 X mi_V_keepAlso 27 3 mi_M_putWord 4 3 0 := k_staticN (index := 97) d_V_keepAlso_27 cs_M_putWord rfl t_5_27 t_1_233
theorem s_V_keepAlso_31 : kGet TT cl6 X mi_V_keepAlso 31 3 8 := k_get (index := 59) cK_3 d_V_keepAlso_31 (by decide) ⟨"Miterhouse$Values", Or.inl t_3_141, Or.inl rfl⟩
theorem s_V_keepAlso_36 : kGet TT cl6 X mi_V_keepAlso 36 3 8 := k_get (index := 59) cK_3 d_V_keepAlso_36 (by decide) ⟨"Miterhouse$Values", Or.inl t_3_141, Or.inl rfl⟩
theorem s_V_keepAlso_40 : kCall TT cl6 X mi_V_keepAlso 40 3 mi_M_wordAt 4 2 0 := k_staticN (index := 119) d_V_keepAlso_40 cs_M_wordAt rfl t_1_153 t_1_154
theorem s_V_keepAlso_44 : kGet TT cl6 X mi_V_keepAlso 44 3 5 := k_get (index := 50) cK_3 d_V_keepAlso_44 (by decide) ⟨"Miterhouse$Values", Or.inl t_3_138, Or.inl rfl⟩
theorem s_V_keepAlso_49 : kGet TT cl6 X mi_V_keepAlso 49 3 2 := k_get (index := 34) cK_3 d_V_keepAlso_49 (by decide) ⟨"Miterhouse$Values", Or.inl t_3_132, Or.inl rfl⟩
theorem s_V_keepAlso_55 : kCall TT cl6 X mi_V_keepAlso 55 3 mi_M_wordAt 4 2 0 := k_staticN (index := 119) d_V_keepAlso_55 cs_M_wordAt rfl t_1_153 t_1_154
theorem s_V_keepAlso_59 : kCall TT cl6 X mi_V_keepAlso 59 3 mi_M_putWord 4 3 0 := k_staticN (index := 97) d_V_keepAlso_59 cs_M_putWord rfl t_5_27 t_1_233
theorem s_V_keepAlso_70 : kGet TT cl6 X mi_V_keepAlso 70 3 9 := k_get (index := 62) cK_3 d_V_keepAlso_70 (by decide) ⟨"Miterhouse$Values", Or.inl t_3_142, Or.inl rfl⟩
theorem s_V_keepAlso_75 : kPut TT cl6 X mi_V_keepAlso 75 3 9 .int := k_put (index := 62) cK_3 d_V_keepAlso_75 (by decide) ⟨"Miterhouse$Values", Or.inl t_3_142, Or.inl rfl⟩ rfl
theorem s_V_keepAlso_81 : kCall TT cl6 X mi_V_keepAlso 81 3 mi_V_keptWith 2 2 3 := k_virtual (index := 146) d_V_keepAlso_81 cs_V_keptWith rfl rfl t_5_116 t_5_105 t_5_106
theorem s_V_keepAlso_84 : kPut TT cl6 X mi_V_keepAlso 84 3 10 .int := k_put (index := 65) cK_3 d_V_keepAlso_84 (by decide) ⟨"Miterhouse$Values", Or.inl t_3_145, Or.inl rfl⟩ rfl
theorem s_V_keepAlso_89 : kPut TT cl6 X mi_V_keepAlso 89 3 11 .long := k_put (index := 68) cK_3 d_V_keepAlso_89 (by decide) ⟨"Miterhouse$Values", Or.inl t_3_147, Or.inl rfl⟩ rfl
theorem s_V_keepAlso_97 : kGet TT cl6 X mi_V_keepAlso 97 3 0 := k_get (index := 9) cK_3 d_V_keepAlso_97 (by decide) ⟨"Miterhouse$Values", Or.inl t_3_126, Or.inl rfl⟩
theorem s_V_keepAlso_100 : kGet TT cl6 X mi_V_keepAlso 100 1 12 := k_get (index := 149) cK_1 d_V_keepAlso_100 (by decide) ⟨"Miterhouse$Nets", Or.inl t_1_64, Or.inl rfl⟩
theorem s_V_keepAlso_109 : kCall TT cl6 X mi_V_keepAlso 109 3 mi_V_isKept 2 2 3 := k_virtual (index := 152) d_V_keepAlso_109 cs_V_isKept rfl rfl t_5_117 t_2_53 t_2_54
theorem s_V_keepAlso_117 : kGet TT cl6 X mi_V_keepAlso 117 3 11 := k_get (index := 68) cK_3 d_V_keepAlso_117 (by decide) ⟨"Miterhouse$Values", Or.inl t_3_147, Or.inl rfl⟩
theorem s_V_keepAlso_124 : kPut TT cl6 X mi_V_keepAlso 124 3 11 .long := k_put (index := 68) cK_3 d_V_keepAlso_124 (by decide) ⟨"Miterhouse$Values", Or.inl t_3_147, Or.inl rfl⟩ rfl
end RW2
