section RW13
variable {X : XT} {L9 : Nat} {xs : Nat → Int32}
theorem d_W_witness_0 : decode mi_W_witness.2.1 0 = .ok (.aload_n 0, 1) := by decide +kernel
theorem d_W_witness_1 : decode mi_W_witness.2.1 1 = .ok (.iload_n 1, 1) := by decide +kernel
theorem d_W_witness_2 : decode mi_W_witness.2.1 2 = .ok (.iload_n 2, 1) := by decide +kernel
theorem d_W_witness_3 : decode mi_W_witness.2.1 3 = .ok (.iload_n 3, 1) := by decide +kernel
theorem d_W_witness_4 : decode mi_W_witness.2.1 4 = .ok (.invokevirtual 71, 3) := by decide +kernel
theorem d_W_witness_7 : decode mi_W_witness.2.1 7 = .ok (.ireturn, 1) := by decide +kernel
theorem d_W_witness_8 : decode mi_W_witness.2.1 8 = .ok (.astore 4, 2) := by decide +kernel
theorem d_W_witness_10 : decode mi_W_witness.2.1 10 = .ok (.ldc 17, 2) := by decide +kernel
theorem d_W_witness_12 : decode mi_W_witness.2.1 12 = .ok (.ireturn, 1) := by decide +kernel
theorem d_W_witness_13 : decode mi_W_witness.2.1 13 = .ok (.astore 4, 2) := by decide +kernel
theorem d_W_witness_15 : decode mi_W_witness.2.1 15 = .ok (.ldc 20, 2) := by decide +kernel
theorem d_W_witness_17 : decode mi_W_witness.2.1 17 = .ok (.ireturn, 1) := by decide +kernel
theorem d_W_witness_18 : decode mi_W_witness.2.1 18 = .ok (.astore 4, 2) := by decide +kernel
theorem d_W_witness_20 : decode mi_W_witness.2.1 20 = .ok (.ldc 27, 2) := by decide +kernel
theorem d_W_witness_22 : decode mi_W_witness.2.1 22 = .ok (.ireturn, 1) := by decide +kernel
theorem s_W_witness_4 : kCall TT cl6 X mi_W_witness 4 3 mi_M_witness 2 4 0 := k_virtual (index := 71) d_W_witness_4 cs_M_witness rfl rfl t_5_204 t_5_205 t_5_206
theorem s_W_witness_10 : kPush TT cl6 X mi_W_witness 10 2 (.int (Int32.ofInt (-900001))) := k_ldc (index := 17) d_W_witness_10 t_2_221
theorem s_W_witness_15 : kPush TT cl6 X mi_W_witness 15 2 (.int (Int32.ofInt (-900002))) := k_ldc (index := 20) d_W_witness_15 t_2_222
theorem s_W_witness_20 : kPush TT cl6 X mi_W_witness 20 2 (.int (Int32.ofInt (-900003))) := k_ldc (index := 27) d_W_witness_20 t_2_223
theorem d_J_fill_0 : decode mi_J_fill.2.1 0 = .ok (.iconst (0), 1) := by decide +kernel
theorem d_J_fill_1 : decode mi_J_fill.2.1 1 = .ok (.istore_n 2, 1) := by decide +kernel
theorem d_J_fill_2 : decode mi_J_fill.2.1 2 = .ok (.aload_n 0, 1) := by decide +kernel
theorem d_J_fill_3 : decode mi_J_fill.2.1 3 = .ok (.arraylength, 1) := by decide +kernel
theorem d_J_fill_4 : decode mi_J_fill.2.1 4 = .ok (.istore_n 3, 1) := by decide +kernel
theorem d_J_fill_5 : decode mi_J_fill.2.1 5 = .ok (.iload_n 2, 1) := by decide +kernel
theorem d_J_fill_6 : decode mi_J_fill.2.1 6 = .ok (.iload_n 3, 1) := by decide +kernel
theorem d_J_fill_7 : decode mi_J_fill.2.1 7 = .ok (.if_icmp .ge (13), 3) := by decide +kernel
theorem d_J_fill_10 : decode mi_J_fill.2.1 10 = .ok (.aload_n 0, 1) := by decide +kernel
theorem d_J_fill_11 : decode mi_J_fill.2.1 11 = .ok (.iload_n 2, 1) := by decide +kernel
theorem d_J_fill_12 : decode mi_J_fill.2.1 12 = .ok (.iload_n 1, 1) := by decide +kernel
theorem d_J_fill_13 : decode mi_J_fill.2.1 13 = .ok (.iastore, 1) := by decide +kernel
theorem d_J_fill_14 : decode mi_J_fill.2.1 14 = .ok (.iinc 2 (1), 3) := by decide +kernel
theorem d_J_fill_17 : decode mi_J_fill.2.1 17 = .ok (.goto (-12), 3) := by decide +kernel
theorem d_J_fill_20 : decode mi_J_fill.2.1 20 = .ok (.return_, 1) := by decide +kernel
theorem d_J_fillL_0 : decode mi_J_fillL.2.1 0 = .ok (.iconst (0), 1) := by decide +kernel
theorem d_J_fillL_1 : decode mi_J_fillL.2.1 1 = .ok (.istore_n 3, 1) := by decide +kernel
theorem d_J_fillL_2 : decode mi_J_fillL.2.1 2 = .ok (.aload_n 0, 1) := by decide +kernel
theorem d_J_fillL_3 : decode mi_J_fillL.2.1 3 = .ok (.arraylength, 1) := by decide +kernel
theorem d_J_fillL_4 : decode mi_J_fillL.2.1 4 = .ok (.istore 4, 2) := by decide +kernel
theorem d_J_fillL_6 : decode mi_J_fillL.2.1 6 = .ok (.iload_n 3, 1) := by decide +kernel
theorem d_J_fillL_7 : decode mi_J_fillL.2.1 7 = .ok (.iload 4, 2) := by decide +kernel
theorem d_J_fillL_9 : decode mi_J_fillL.2.1 9 = .ok (.if_icmp .ge (13), 3) := by decide +kernel
theorem d_J_fillL_12 : decode mi_J_fillL.2.1 12 = .ok (.aload_n 0, 1) := by decide +kernel
theorem d_J_fillL_13 : decode mi_J_fillL.2.1 13 = .ok (.iload_n 3, 1) := by decide +kernel
theorem d_J_fillL_14 : decode mi_J_fillL.2.1 14 = .ok (.lload_n 1, 1) := by decide +kernel
theorem d_J_fillL_15 : decode mi_J_fillL.2.1 15 = .ok (.lastore, 1) := by decide +kernel
theorem d_J_fillL_16 : decode mi_J_fillL.2.1 16 = .ok (.iinc 3 (1), 3) := by decide +kernel
theorem d_J_fillL_19 : decode mi_J_fillL.2.1 19 = .ok (.goto (-13), 3) := by decide +kernel
theorem d_J_fillL_22 : decode mi_J_fillL.2.1 22 = .ok (.return_, 1) := by decide +kernel
theorem d_L_bitCount_0 : decode mi_L_bitCount.2.1 0 = .ok (.lload_n 0, 1) := by decide +kernel
theorem d_L_bitCount_1 : decode mi_L_bitCount.2.1 1 = .ok (.lload_n 0, 1) := by decide +kernel
theorem d_L_bitCount_2 : decode mi_L_bitCount.2.1 2 = .ok (.iconst (1), 1) := by decide +kernel
theorem d_L_bitCount_3 : decode mi_L_bitCount.2.1 3 = .ok (.lushr, 1) := by decide +kernel
theorem d_L_bitCount_4 : decode mi_L_bitCount.2.1 4 = .ok (.ldc2_w 314, 3) := by decide +kernel
theorem d_L_bitCount_7 : decode mi_L_bitCount.2.1 7 = .ok (.land, 1) := by decide +kernel
theorem d_L_bitCount_8 : decode mi_L_bitCount.2.1 8 = .ok (.lsub, 1) := by decide +kernel
theorem d_L_bitCount_9 : decode mi_L_bitCount.2.1 9 = .ok (.lstore_n 0, 1) := by decide +kernel
theorem d_L_bitCount_10 : decode mi_L_bitCount.2.1 10 = .ok (.lload_n 0, 1) := by decide +kernel
theorem d_L_bitCount_11 : decode mi_L_bitCount.2.1 11 = .ok (.ldc2_w 316, 3) := by decide +kernel
theorem d_L_bitCount_14 : decode mi_L_bitCount.2.1 14 = .ok (.land, 1) := by decide +kernel
theorem d_L_bitCount_15 : decode mi_L_bitCount.2.1 15 = .ok (.lload_n 0, 1) := by decide +kernel
theorem d_L_bitCount_16 : decode mi_L_bitCount.2.1 16 = .ok (.iconst (2), 1) := by decide +kernel
theorem d_L_bitCount_17 : decode mi_L_bitCount.2.1 17 = .ok (.lushr, 1) := by decide +kernel
theorem d_L_bitCount_18 : decode mi_L_bitCount.2.1 18 = .ok (.ldc2_w 316, 3) := by decide +kernel
theorem d_L_bitCount_21 : decode mi_L_bitCount.2.1 21 = .ok (.land, 1) := by decide +kernel
theorem d_L_bitCount_22 : decode mi_L_bitCount.2.1 22 = .ok (.ladd, 1) := by decide +kernel
theorem d_L_bitCount_23 : decode mi_L_bitCount.2.1 23 = .ok (.lstore_n 0, 1) := by decide +kernel
theorem d_L_bitCount_24 : decode mi_L_bitCount.2.1 24 = .ok (.lload_n 0, 1) := by decide +kernel
theorem d_L_bitCount_25 : decode mi_L_bitCount.2.1 25 = .ok (.lload_n 0, 1) := by decide +kernel
theorem d_L_bitCount_26 : decode mi_L_bitCount.2.1 26 = .ok (.iconst (4), 1) := by decide +kernel
theorem d_L_bitCount_27 : decode mi_L_bitCount.2.1 27 = .ok (.lushr, 1) := by decide +kernel
theorem d_L_bitCount_28 : decode mi_L_bitCount.2.1 28 = .ok (.ladd, 1) := by decide +kernel
theorem d_L_bitCount_29 : decode mi_L_bitCount.2.1 29 = .ok (.ldc2_w 318, 3) := by decide +kernel
theorem d_L_bitCount_32 : decode mi_L_bitCount.2.1 32 = .ok (.land, 1) := by decide +kernel
theorem d_L_bitCount_33 : decode mi_L_bitCount.2.1 33 = .ok (.lstore_n 0, 1) := by decide +kernel
theorem d_L_bitCount_34 : decode mi_L_bitCount.2.1 34 = .ok (.lload_n 0, 1) := by decide +kernel
theorem d_L_bitCount_35 : decode mi_L_bitCount.2.1 35 = .ok (.lload_n 0, 1) := by decide +kernel
theorem d_L_bitCount_36 : decode mi_L_bitCount.2.1 36 = .ok (.bipush (8), 2) := by decide +kernel
theorem d_L_bitCount_38 : decode mi_L_bitCount.2.1 38 = .ok (.lushr, 1) := by decide +kernel
theorem d_L_bitCount_39 : decode mi_L_bitCount.2.1 39 = .ok (.ladd, 1) := by decide +kernel
theorem d_L_bitCount_40 : decode mi_L_bitCount.2.1 40 = .ok (.lstore_n 0, 1) := by decide +kernel
theorem d_L_bitCount_41 : decode mi_L_bitCount.2.1 41 = .ok (.lload_n 0, 1) := by decide +kernel
theorem d_L_bitCount_42 : decode mi_L_bitCount.2.1 42 = .ok (.lload_n 0, 1) := by decide +kernel
theorem d_L_bitCount_43 : decode mi_L_bitCount.2.1 43 = .ok (.bipush (16), 2) := by decide +kernel
theorem d_L_bitCount_45 : decode mi_L_bitCount.2.1 45 = .ok (.lushr, 1) := by decide +kernel
theorem d_L_bitCount_46 : decode mi_L_bitCount.2.1 46 = .ok (.ladd, 1) := by decide +kernel
theorem d_L_bitCount_47 : decode mi_L_bitCount.2.1 47 = .ok (.lstore_n 0, 1) := by decide +kernel
theorem d_L_bitCount_48 : decode mi_L_bitCount.2.1 48 = .ok (.lload_n 0, 1) := by decide +kernel
theorem d_L_bitCount_49 : decode mi_L_bitCount.2.1 49 = .ok (.lload_n 0, 1) := by decide +kernel
theorem d_L_bitCount_50 : decode mi_L_bitCount.2.1 50 = .ok (.bipush (32), 2) := by decide +kernel
theorem d_L_bitCount_52 : decode mi_L_bitCount.2.1 52 = .ok (.lushr, 1) := by decide +kernel
theorem d_L_bitCount_53 : decode mi_L_bitCount.2.1 53 = .ok (.ladd, 1) := by decide +kernel
theorem d_L_bitCount_54 : decode mi_L_bitCount.2.1 54 = .ok (.lstore_n 0, 1) := by decide +kernel
theorem d_L_bitCount_55 : decode mi_L_bitCount.2.1 55 = .ok (.lload_n 0, 1) := by decide +kernel
theorem d_L_bitCount_56 : decode mi_L_bitCount.2.1 56 = .ok (.l2i, 1) := by decide +kernel
theorem d_L_bitCount_57 : decode mi_L_bitCount.2.1 57 = .ok (.bipush (127), 2) := by decide +kernel
theorem d_L_bitCount_59 : decode mi_L_bitCount.2.1 59 = .ok (.iand, 1) := by decide +kernel
theorem d_L_bitCount_60 : decode mi_L_bitCount.2.1 60 = .ok (.ireturn, 1) := by decide +kernel
theorem s_L_bitCount_4 : kPush TT cl6 X mi_L_bitCount 4 3 (.long (Int64.ofInt (6148914691236517205))) := k_ldc2 (index := 314) d_L_bitCount_4 t_2_29
theorem s_L_bitCount_11 : kPush TT cl6 X mi_L_bitCount 11 3 (.long (Int64.ofInt (3689348814741910323))) := k_ldc2 (index := 316) d_L_bitCount_11 t_2_30
theorem s_L_bitCount_18 : kPush TT cl6 X mi_L_bitCount 18 3 (.long (Int64.ofInt (3689348814741910323))) := k_ldc2 (index := 316) d_L_bitCount_18 t_2_30
theorem s_L_bitCount_29 : kPush TT cl6 X mi_L_bitCount 29 3 (.long (Int64.ofInt (1085102592571150095))) := k_ldc2 (index := 318) d_L_bitCount_29 t_2_31
end RW13
