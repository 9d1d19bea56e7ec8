section RW5
variable {X : XT} {L9 : Nat} {xs : Nat → Int32}
theorem d_T_expand_0 : decode mi_T_expand.2.1 0 = .ok (.aload_n 0, 1) := by decide +kernel
theorem d_T_expand_1 : decode mi_T_expand.2.1 1 = .ok (.getfield 54, 3) := by decide +kernel
theorem d_T_expand_4 : decode mi_T_expand.2.1 4 = .ok (.iload_n 1, 1) := by decide +kernel
theorem d_T_expand_5 : decode mi_T_expand.2.1 5 = .ok (.invokestatic 104, 3) := by decide +kernel
theorem d_T_expand_8 : decode mi_T_expand.2.1 8 = .ok (.istore_n 2, 1) := by decide +kernel
theorem d_T_expand_9 : decode mi_T_expand.2.1 9 = .ok (.iconst (0), 1) := by decide +kernel
theorem d_T_expand_10 : decode mi_T_expand.2.1 10 = .ok (.istore_n 3, 1) := by decide +kernel
theorem d_T_expand_11 : decode mi_T_expand.2.1 11 = .ok (.iload_n 3, 1) := by decide +kernel
theorem d_T_expand_12 : decode mi_T_expand.2.1 12 = .ok (.iconst (1), 1) := by decide +kernel
theorem d_T_expand_13 : decode mi_T_expand.2.1 13 = .ok (.aload_n 0, 1) := by decide +kernel
theorem d_T_expand_14 : decode mi_T_expand.2.1 14 = .ok (.getfield 34, 3) := by decide +kernel
theorem d_T_expand_17 : decode mi_T_expand.2.1 17 = .ok (.ishl, 1) := by decide +kernel
theorem d_T_expand_18 : decode mi_T_expand.2.1 18 = .ok (.if_icmp .ge (86), 3) := by decide +kernel
theorem d_T_expand_21 : decode mi_T_expand.2.1 21 = .ok (.aload_n 0, 1) := by decide +kernel
theorem d_T_expand_22 : decode mi_T_expand.2.1 22 = .ok (.getfield 13, 3) := by decide +kernel
theorem d_T_expand_25 : decode mi_T_expand.2.1 25 = .ok (.iload_n 3, 1) := by decide +kernel
theorem d_T_expand_26 : decode mi_T_expand.2.1 26 = .ok (.invokevirtual 138, 3) := by decide +kernel
theorem d_T_expand_29 : decode mi_T_expand.2.1 29 = .ok (.ifCond .eq (69), 3) := by decide +kernel
theorem d_T_expand_32 : decode mi_T_expand.2.1 32 = .ok (.aload_n 0, 1) := by decide +kernel
theorem d_T_expand_33 : decode mi_T_expand.2.1 33 = .ok (.iload_n 1, 1) := by decide +kernel
theorem d_T_expand_34 : decode mi_T_expand.2.1 34 = .ok (.iload_n 3, 1) := by decide +kernel
theorem d_T_expand_35 : decode mi_T_expand.2.1 35 = .ok (.invokevirtual 142, 3) := by decide +kernel
theorem d_T_expand_38 : decode mi_T_expand.2.1 38 = .ok (.istore 4, 2) := by decide +kernel
theorem d_T_expand_40 : decode mi_T_expand.2.1 40 = .ok (.iload 4, 2) := by decide +kernel
theorem d_T_expand_42 : decode mi_T_expand.2.1 42 = .ok (.sipush (256), 3) := by decide +kernel
theorem d_T_expand_45 : decode mi_T_expand.2.1 45 = .ok (.iand, 1) := by decide +kernel
theorem d_T_expand_46 : decode mi_T_expand.2.1 46 = .ok (.ifCond .eq (21), 3) := by decide +kernel
theorem d_T_expand_49 : decode mi_T_expand.2.1 49 = .ok (.aload_n 0, 1) := by decide +kernel
theorem d_T_expand_50 : decode mi_T_expand.2.1 50 = .ok (.getfield 76, 3) := by decide +kernel
theorem d_T_expand_53 : decode mi_T_expand.2.1 53 = .ok (.ifCond .ge (14), 3) := by decide +kernel
theorem d_T_expand_56 : decode mi_T_expand.2.1 56 = .ok (.aload_n 0, 1) := by decide +kernel
theorem d_T_expand_57 : decode mi_T_expand.2.1 57 = .ok (.iload_n 2, 1) := by decide +kernel
theorem d_T_expand_58 : decode mi_T_expand.2.1 58 = .ok (.putfield 76, 3) := by decide +kernel
theorem d_T_expand_61 : decode mi_T_expand.2.1 61 = .ok (.aload_n 0, 1) := by decide +kernel
theorem d_T_expand_62 : decode mi_T_expand.2.1 62 = .ok (.iload_n 1, 1) := by decide +kernel
theorem d_T_expand_63 : decode mi_T_expand.2.1 63 = .ok (.iload_n 3, 1) := by decide +kernel
theorem d_T_expand_64 : decode mi_T_expand.2.1 64 = .ok (.invokevirtual 145, 3) := by decide +kernel
theorem d_T_expand_67 : decode mi_T_expand.2.1 67 = .ok (.iload 4, 2) := by decide +kernel
theorem d_T_expand_69 : decode mi_T_expand.2.1 69 = .ok (.sipush (255), 3) := by decide +kernel
theorem d_T_expand_72 : decode mi_T_expand.2.1 72 = .ok (.iand, 1) := by decide +kernel
theorem d_T_expand_73 : decode mi_T_expand.2.1 73 = .ok (.istore 5, 2) := by decide +kernel
theorem d_T_expand_75 : decode mi_T_expand.2.1 75 = .ok (.aload_n 0, 1) := by decide +kernel
theorem d_T_expand_76 : decode mi_T_expand.2.1 76 = .ok (.getfield 48, 3) := by decide +kernel
theorem d_T_expand_79 : decode mi_T_expand.2.1 79 = .ok (.iload 5, 2) := by decide +kernel
theorem d_T_expand_81 : decode mi_T_expand.2.1 81 = .ok (.invokestatic 104, 3) := by decide +kernel
theorem d_T_expand_84 : decode mi_T_expand.2.1 84 = .ok (.ifCond .ge (14), 3) := by decide +kernel
theorem d_T_expand_87 : decode mi_T_expand.2.1 87 = .ok (.aload_n 0, 1) := by decide +kernel
theorem d_T_expand_88 : decode mi_T_expand.2.1 88 = .ok (.iload 5, 2) := by decide +kernel
theorem d_T_expand_90 : decode mi_T_expand.2.1 90 = .ok (.iload_n 1, 1) := by decide +kernel
theorem d_T_expand_91 : decode mi_T_expand.2.1 91 = .ok (.iload_n 3, 1) := by decide +kernel
theorem d_T_expand_92 : decode mi_T_expand.2.1 92 = .ok (.iload_n 2, 1) := by decide +kernel
theorem d_T_expand_93 : decode mi_T_expand.2.1 93 = .ok (.iconst (1), 1) := by decide +kernel
theorem d_T_expand_94 : decode mi_T_expand.2.1 94 = .ok (.iadd, 1) := by decide +kernel
theorem d_T_expand_95 : decode mi_T_expand.2.1 95 = .ok (.invokevirtual 126, 3) := by decide +kernel
theorem d_T_expand_98 : decode mi_T_expand.2.1 98 = .ok (.iinc 3 (1), 3) := by decide +kernel
theorem d_T_expand_101 : decode mi_T_expand.2.1 101 = .ok (.goto (-90), 3) := by decide +kernel
theorem d_T_expand_104 : decode mi_T_expand.2.1 104 = .ok (.return_, 1) := by decide +kernel
theorem s_T_expand_1 : kGet TT cl6 X mi_T_expand 1 6 8 := k_get (index := 54) cK_6 d_T_expand_1 (by decide) ⟨"Miterhouse$States", Or.inl t_4_152, Or.inl rfl⟩
theorem s_T_expand_5 : kCall TT cl6 X mi_T_expand 5 3 mi_M_numberAt 4 2 0 := k_staticN (index := 104) d_T_expand_5 cs_M_numberAt rfl t_1_186 t_1_138
theorem s_T_expand_14 : kGet TT cl6 X mi_T_expand 14 6 2 := k_get (index := 34) cK_6 d_T_expand_14 (by decide) ⟨"Miterhouse$States", Or.inl t_4_146, Or.inl rfl⟩
theorem s_T_expand_22 : kGet TT cl6 X mi_T_expand 22 6 1 := k_get (index := 13) cK_6 d_T_expand_22 (by decide) ⟨"Miterhouse$States", Or.inl t_4_145, Or.inl rfl⟩
theorem s_T_expand_26 : kCall TT cl6 X mi_T_expand 26 3 mi_V_areKeptInputs 2 2 3 := k_virtual (index := 138) d_T_expand_26 cs_V_areKeptInputs rfl rfl t_1_191 t_1_192 t_1_193
theorem s_T_expand_35 : kCall TT cl6 X mi_T_expand 35 3 mi_T_stepFrom 2 3 6 := k_virtual (index := 142) d_T_expand_35 cs_T_stepFrom rfl rfl t_1_195 t_1_197 ts_6
theorem s_T_expand_50 : kGet TT cl6 X mi_T_expand 50 6 15 := k_get (index := 76) cK_6 d_T_expand_50 (by decide) ⟨"Miterhouse$States", Or.inl t_4_160, Or.inl rfl⟩
theorem s_T_expand_58 : kPut TT cl6 X mi_T_expand 58 6 15 .int := k_put (index := 76) cK_6 d_T_expand_58 (by decide) ⟨"Miterhouse$States", Or.inl t_4_160, Or.inl rfl⟩ rfl
theorem s_T_expand_64 : kCall TT cl6 X mi_T_expand 64 3 mi_T_writeTrace 2 3 6 := k_virtual (index := 145) d_T_expand_64 cs_T_writeTrace rfl rfl t_1_199 t_1_201 ts_7
theorem s_T_expand_76 : kGet TT cl6 X mi_T_expand 76 6 6 := k_get (index := 48) cK_6 d_T_expand_76 (by decide) ⟨"Miterhouse$States", Or.inl t_4_150, Or.inl rfl⟩
theorem s_T_expand_81 : kCall TT cl6 X mi_T_expand 81 3 mi_M_numberAt 4 2 0 := k_staticN (index := 104) d_T_expand_81 cs_M_numberAt rfl t_1_186 t_1_138
theorem s_T_expand_95 : kCall TT cl6 X mi_T_expand 95 3 mi_T_meet 2 5 6 := k_virtual (index := 126) d_T_expand_95 cs_T_meet rfl rfl t_1_179 t_1_181 ts_4
theorem d_T_fillFollow_0 : decode mi_T_fillFollow.2.1 0 = .ok (.aload_n 0, 1) := by decide +kernel
theorem d_T_fillFollow_1 : decode mi_T_fillFollow.2.1 1 = .ok (.getfield 66, 3) := by decide +kernel
theorem d_T_fillFollow_4 : decode mi_T_fillFollow.2.1 4 = .ok (.ifCond .eq (4), 3) := by decide +kernel
theorem d_T_fillFollow_7 : decode mi_T_fillFollow.2.1 7 = .ok (.return_, 1) := by decide +kernel
theorem d_T_fillFollow_8 : decode mi_T_fillFollow.2.1 8 = .ok (.aload_n 0, 1) := by decide +kernel
theorem d_T_fillFollow_9 : decode mi_T_fillFollow.2.1 9 = .ok (.iconst (1), 1) := by decide +kernel
theorem d_T_fillFollow_10 : decode mi_T_fillFollow.2.1 10 = .ok (.putfield 66, 3) := by decide +kernel
theorem d_T_fillFollow_13 : decode mi_T_fillFollow.2.1 13 = .ok (.iconst (0), 1) := by decide +kernel
theorem d_T_fillFollow_14 : decode mi_T_fillFollow.2.1 14 = .ok (.istore_n 1, 1) := by decide +kernel
theorem d_T_fillFollow_15 : decode mi_T_fillFollow.2.1 15 = .ok (.iload_n 1, 1) := by decide +kernel
theorem d_T_fillFollow_16 : decode mi_T_fillFollow.2.1 16 = .ok (.aload_n 0, 1) := by decide +kernel
theorem d_T_fillFollow_17 : decode mi_T_fillFollow.2.1 17 = .ok (.getfield 41, 3) := by decide +kernel
theorem d_T_fillFollow_20 : decode mi_T_fillFollow.2.1 20 = .ok (.arraylength, 1) := by decide +kernel
theorem d_T_fillFollow_21 : decode mi_T_fillFollow.2.1 21 = .ok (.if_icmp .ge (53), 3) := by decide +kernel
theorem d_T_fillFollow_24 : decode mi_T_fillFollow.2.1 24 = .ok (.aload_n 0, 1) := by decide +kernel
theorem d_T_fillFollow_25 : decode mi_T_fillFollow.2.1 25 = .ok (.iconst (0), 1) := by decide +kernel
theorem d_T_fillFollow_26 : decode mi_T_fillFollow.2.1 26 = .ok (.iload_n 1, 1) := by decide +kernel
theorem d_T_fillFollow_27 : decode mi_T_fillFollow.2.1 27 = .ok (.invokevirtual 98, 3) := by decide +kernel
theorem d_T_fillFollow_30 : decode mi_T_fillFollow.2.1 30 = .ok (.aload_n 0, 1) := by decide +kernel
theorem d_T_fillFollow_31 : decode mi_T_fillFollow.2.1 31 = .ok (.iconst (1), 1) := by decide +kernel
theorem d_T_fillFollow_32 : decode mi_T_fillFollow.2.1 32 = .ok (.iload_n 1, 1) := by decide +kernel
theorem d_T_fillFollow_33 : decode mi_T_fillFollow.2.1 33 = .ok (.invokevirtual 98, 3) := by decide +kernel
theorem d_T_fillFollow_36 : decode mi_T_fillFollow.2.1 36 = .ok (.if_icmp .eq (7), 3) := by decide +kernel
theorem d_T_fillFollow_39 : decode mi_T_fillFollow.2.1 39 = .ok (.iconst (1), 1) := by decide +kernel
theorem d_T_fillFollow_40 : decode mi_T_fillFollow.2.1 40 = .ok (.goto (4), 3) := by decide +kernel
theorem d_T_fillFollow_43 : decode mi_T_fillFollow.2.1 43 = .ok (.iconst (0), 1) := by decide +kernel
theorem d_T_fillFollow_44 : decode mi_T_fillFollow.2.1 44 = .ok (.istore_n 2, 1) := by decide +kernel
theorem d_T_fillFollow_45 : decode mi_T_fillFollow.2.1 45 = .ok (.aload_n 0, 1) := by decide +kernel
theorem d_T_fillFollow_46 : decode mi_T_fillFollow.2.1 46 = .ok (.getfield 41, 3) := by decide +kernel
theorem d_T_fillFollow_49 : decode mi_T_fillFollow.2.1 49 = .ok (.iload_n 1, 1) := by decide +kernel
theorem d_T_fillFollow_50 : decode mi_T_fillFollow.2.1 50 = .ok (.aload_n 0, 1) := by decide +kernel
theorem d_T_fillFollow_51 : decode mi_T_fillFollow.2.1 51 = .ok (.iload_n 1, 1) := by decide +kernel
theorem d_T_fillFollow_52 : decode mi_T_fillFollow.2.1 52 = .ok (.invokevirtual 101, 3) := by decide +kernel
theorem d_T_fillFollow_55 : decode mi_T_fillFollow.2.1 55 = .ok (.iload_n 2, 1) := by decide +kernel
theorem d_T_fillFollow_56 : decode mi_T_fillFollow.2.1 56 = .ok (.ifCond .eq (9), 3) := by decide +kernel
theorem d_T_fillFollow_59 : decode mi_T_fillFollow.2.1 59 = .ok (.sipush (256), 3) := by decide +kernel
theorem d_T_fillFollow_62 : decode mi_T_fillFollow.2.1 62 = .ok (.goto (4), 3) := by decide +kernel
theorem d_T_fillFollow_65 : decode mi_T_fillFollow.2.1 65 = .ok (.iconst (0), 1) := by decide +kernel
theorem d_T_fillFollow_66 : decode mi_T_fillFollow.2.1 66 = .ok (.ior, 1) := by decide +kernel
theorem d_T_fillFollow_67 : decode mi_T_fillFollow.2.1 67 = .ok (.iastore, 1) := by decide +kernel
theorem d_T_fillFollow_68 : decode mi_T_fillFollow.2.1 68 = .ok (.iinc 1 (1), 3) := by decide +kernel
theorem d_T_fillFollow_71 : decode mi_T_fillFollow.2.1 71 = .ok (.goto (-56), 3) := by decide +kernel
theorem d_T_fillFollow_74 : decode mi_T_fillFollow.2.1 74 = .ok (.return_, 1) := by decide +kernel
theorem s_T_fillFollow_1 : kGet TT cl6 X mi_T_fillFollow 1 6 12 := k_get (index := 66) cK_6 d_T_fillFollow_1 (by decide) ⟨"Miterhouse$States", Or.inl t_4_156, Or.inl rfl⟩
theorem s_T_fillFollow_10 : kPut TT cl6 X mi_T_fillFollow 10 6 12 .boolean := k_put (index := 66) cK_6 d_T_fillFollow_10 (by decide) ⟨"Miterhouse$States", Or.inl t_4_156, Or.inl rfl⟩ rfl
theorem s_T_fillFollow_17 : kGet TT cl6 X mi_T_fillFollow 17 6 4 := k_get (index := 41) cK_6 d_T_fillFollow_17 (by decide) ⟨"Miterhouse$States", Or.inl t_4_148, Or.inl rfl⟩
theorem s_T_fillFollow_27 : kCall TT cl6 X mi_T_fillFollow 27 3 mi_T_outputsAt 2 3 6 := k_virtual (index := 98) d_T_fillFollow_27 cs_T_outputsAt rfl rfl t_1_129 t_1_131 ts_1
theorem s_T_fillFollow_33 : kCall TT cl6 X mi_T_fillFollow 33 3 mi_T_outputsAt 2 3 6 := k_virtual (index := 98) d_T_fillFollow_33 cs_T_outputsAt rfl rfl t_1_129 t_1_131 ts_1
theorem s_T_fillFollow_46 : kGet TT cl6 X mi_T_fillFollow 46 6 4 := k_get (index := 41) cK_6 d_T_fillFollow_46 (by decide) ⟨"Miterhouse$States", Or.inl t_4_148, Or.inl rfl⟩
theorem s_T_fillFollow_52 : kCall TT cl6 X mi_T_fillFollow 52 3 mi_T_stateBehind 2 2 6 := k_virtual (index := 101) d_T_fillFollow_52 cs_T_stateBehind rfl rfl t_1_156 t_1_158 ts_2
theorem d_T_firstState_0 : decode mi_T_firstState.2.1 0 = .ok (.iconst (0), 1) := by decide +kernel
theorem d_T_firstState_1 : decode mi_T_firstState.2.1 1 = .ok (.istore_n 1, 1) := by decide +kernel
theorem d_T_firstState_2 : decode mi_T_firstState.2.1 2 = .ok (.aload_n 0, 1) := by decide +kernel
theorem d_T_firstState_3 : decode mi_T_firstState.2.1 3 = .ok (.getfield 34, 3) := by decide +kernel
theorem d_T_firstState_6 : decode mi_T_firstState.2.1 6 = .ok (.istore_n 2, 1) := by decide +kernel
theorem d_T_firstState_7 : decode mi_T_firstState.2.1 7 = .ok (.iload_n 2, 1) := by decide +kernel
theorem d_T_firstState_8 : decode mi_T_firstState.2.1 8 = .ok (.aload_n 0, 1) := by decide +kernel
theorem d_T_firstState_9 : decode mi_T_firstState.2.1 9 = .ok (.getfield 13, 3) := by decide +kernel
theorem d_T_firstState_12 : decode mi_T_firstState.2.1 12 = .ok (.getfield 23, 3) := by decide +kernel
theorem d_T_firstState_15 : decode mi_T_firstState.2.1 15 = .ok (.if_icmp .ge (34), 3) := by decide +kernel
theorem d_T_firstState_18 : decode mi_T_firstState.2.1 18 = .ok (.iload_n 1, 1) := by decide +kernel
theorem d_T_firstState_19 : decode mi_T_firstState.2.1 19 = .ok (.aload_n 0, 1) := by decide +kernel
theorem d_T_firstState_20 : decode mi_T_firstState.2.1 20 = .ok (.getfield 7, 3) := by decide +kernel
theorem d_T_firstState_23 : decode mi_T_firstState.2.1 23 = .ok (.aload_n 0, 1) := by decide +kernel
theorem d_T_firstState_24 : decode mi_T_firstState.2.1 24 = .ok (.getfield 7, 3) := by decide +kernel
theorem d_T_firstState_27 : decode mi_T_firstState.2.1 27 = .ok (.iload_n 2, 1) := by decide +kernel
theorem d_T_firstState_28 : decode mi_T_firstState.2.1 28 = .ok (.invokevirtual 79, 3) := by decide +kernel
theorem d_T_firstState_31 : decode mi_T_firstState.2.1 31 = .ok (.invokevirtual 83, 3) := by decide +kernel
theorem d_T_firstState_34 : decode mi_T_firstState.2.1 34 = .ok (.iload_n 2, 1) := by decide +kernel
theorem d_T_firstState_35 : decode mi_T_firstState.2.1 35 = .ok (.aload_n 0, 1) := by decide +kernel
theorem d_T_firstState_36 : decode mi_T_firstState.2.1 36 = .ok (.getfield 34, 3) := by decide +kernel
theorem d_T_firstState_39 : decode mi_T_firstState.2.1 39 = .ok (.isub, 1) := by decide +kernel
theorem d_T_firstState_40 : decode mi_T_firstState.2.1 40 = .ok (.ishl, 1) := by decide +kernel
theorem d_T_firstState_41 : decode mi_T_firstState.2.1 41 = .ok (.ior, 1) := by decide +kernel
theorem d_T_firstState_42 : decode mi_T_firstState.2.1 42 = .ok (.istore_n 1, 1) := by decide +kernel
theorem d_T_firstState_43 : decode mi_T_firstState.2.1 43 = .ok (.iinc 2 (1), 3) := by decide +kernel
theorem d_T_firstState_46 : decode mi_T_firstState.2.1 46 = .ok (.goto (-39), 3) := by decide +kernel
theorem d_T_firstState_49 : decode mi_T_firstState.2.1 49 = .ok (.iload_n 1, 1) := by decide +kernel
theorem d_T_firstState_50 : decode mi_T_firstState.2.1 50 = .ok (.ireturn, 1) := by decide +kernel
theorem s_T_firstState_3 : kGet TT cl6 X mi_T_firstState 3 6 2 := k_get (index := 34) cK_6 d_T_firstState_3 (by decide) ⟨"Miterhouse$States", Or.inl t_4_146, Or.inl rfl⟩
theorem s_T_firstState_9 : kGet TT cl6 X mi_T_firstState 9 6 1 := k_get (index := 13) cK_6 d_T_firstState_9 (by decide) ⟨"Miterhouse$States", Or.inl t_4_145, Or.inl rfl⟩
theorem s_T_firstState_12 : kGet TT cl6 X mi_T_firstState 12 3 1 := k_get (index := 23) cK_3 d_T_firstState_12 (by decide) ⟨"Miterhouse$Values", Or.inl t_3_128, Or.inl rfl⟩
theorem s_T_firstState_20 : kGet TT cl6 X mi_T_firstState 20 6 0 := k_get (index := 7) cK_6 d_T_firstState_20 (by decide) ⟨"Miterhouse$States", Or.inl t_4_144, Or.inl rfl⟩
theorem s_T_firstState_24 : kGet TT cl6 X mi_T_firstState 24 6 0 := k_get (index := 7) cK_6 d_T_firstState_24 (by decide) ⟨"Miterhouse$States", Or.inl t_4_144, Or.inl rfl⟩
theorem s_T_firstState_28 : kCall TT cl6 X mi_T_firstState 28 3 mi_N_sourceLine 2 2 1 := k_virtual (index := 79) d_T_firstState_28 cs_N_sourceLine rfl rfl t_1_160 t_1_161 t_1_162
theorem s_T_firstState_31 : kCall TT cl6 X mi_T_firstState 31 3 mi_N_firstOf 2 2 1 := k_virtual (index := 83) d_T_firstState_31 cs_N_firstOf rfl rfl t_1_175 t_1_176 t_1_177
theorem s_T_firstState_36 : kGet TT cl6 X mi_T_firstState 36 6 2 := k_get (index := 34) cK_6 d_T_firstState_36 (by decide) ⟨"Miterhouse$States", Or.inl t_4_146, Or.inl rfl⟩
theorem d_T_isAlwaysOne_0 : decode mi_T_isAlwaysOne.2.1 0 = .ok (.aload_n 0, 1) := by decide +kernel
theorem d_T_isAlwaysOne_1 : decode mi_T_isAlwaysOne.2.1 1 = .ok (.invokevirtual 113, 3) := by decide +kernel
theorem d_T_isAlwaysOne_4 : decode mi_T_isAlwaysOne.2.1 4 = .ok (.iconst (0), 1) := by decide +kernel
theorem d_T_isAlwaysOne_5 : decode mi_T_isAlwaysOne.2.1 5 = .ok (.istore_n 2, 1) := by decide +kernel
theorem d_T_isAlwaysOne_6 : decode mi_T_isAlwaysOne.2.1 6 = .ok (.iload_n 2, 1) := by decide +kernel
theorem d_T_isAlwaysOne_7 : decode mi_T_isAlwaysOne.2.1 7 = .ok (.aload_n 0, 1) := by decide +kernel
theorem d_T_isAlwaysOne_8 : decode mi_T_isAlwaysOne.2.1 8 = .ok (.getfield 38, 3) := by decide +kernel
theorem d_T_isAlwaysOne_11 : decode mi_T_isAlwaysOne.2.1 11 = .ok (.if_icmp .ge (31), 3) := by decide +kernel
theorem d_T_isAlwaysOne_14 : decode mi_T_isAlwaysOne.2.1 14 = .ok (.aload_n 0, 1) := by decide +kernel
theorem d_T_isAlwaysOne_15 : decode mi_T_isAlwaysOne.2.1 15 = .ok (.getfield 60, 3) := by decide +kernel
theorem d_T_isAlwaysOne_18 : decode mi_T_isAlwaysOne.2.1 18 = .ok (.iload_n 2, 1) := by decide +kernel
theorem d_T_isAlwaysOne_19 : decode mi_T_isAlwaysOne.2.1 19 = .ok (.aload_n 0, 1) := by decide +kernel
theorem d_T_isAlwaysOne_20 : decode mi_T_isAlwaysOne.2.1 20 = .ok (.iload_n 1, 1) := by decide +kernel
theorem d_T_isAlwaysOne_21 : decode mi_T_isAlwaysOne.2.1 21 = .ok (.iload_n 2, 1) := by decide +kernel
theorem d_T_isAlwaysOne_22 : decode mi_T_isAlwaysOne.2.1 22 = .ok (.invokevirtual 164, 3) := by decide +kernel
theorem d_T_isAlwaysOne_25 : decode mi_T_isAlwaysOne.2.1 25 = .ok (.ifCond .eq (7), 3) := by decide +kernel
theorem d_T_isAlwaysOne_28 : decode mi_T_isAlwaysOne.2.1 28 = .ok (.iconst (1), 1) := by decide +kernel
theorem d_T_isAlwaysOne_29 : decode mi_T_isAlwaysOne.2.1 29 = .ok (.goto (4), 3) := by decide +kernel
theorem d_T_isAlwaysOne_32 : decode mi_T_isAlwaysOne.2.1 32 = .ok (.iconst (0), 1) := by decide +kernel
theorem d_T_isAlwaysOne_33 : decode mi_T_isAlwaysOne.2.1 33 = .ok (.invokestatic 134, 3) := by decide +kernel
theorem d_T_isAlwaysOne_36 : decode mi_T_isAlwaysOne.2.1 36 = .ok (.iinc 2 (1), 3) := by decide +kernel
theorem d_T_isAlwaysOne_39 : decode mi_T_isAlwaysOne.2.1 39 = .ok (.goto (-33), 3) := by decide +kernel
theorem d_T_isAlwaysOne_42 : decode mi_T_isAlwaysOne.2.1 42 = .ok (.aload_n 0, 1) := by decide +kernel
theorem d_T_isAlwaysOne_43 : decode mi_T_isAlwaysOne.2.1 43 = .ok (.getfield 60, 3) := by decide +kernel
theorem d_T_isAlwaysOne_46 : decode mi_T_isAlwaysOne.2.1 46 = .ok (.aload_n 0, 1) := by decide +kernel
theorem d_T_isAlwaysOne_47 : decode mi_T_isAlwaysOne.2.1 47 = .ok (.invokevirtual 122, 3) := by decide +kernel
theorem d_T_isAlwaysOne_50 : decode mi_T_isAlwaysOne.2.1 50 = .ok (.invokestatic 104, 3) := by decide +kernel
theorem d_T_isAlwaysOne_53 : decode mi_T_isAlwaysOne.2.1 53 = .ok (.ifCond .ne (5), 3) := by decide +kernel
theorem d_T_isAlwaysOne_56 : decode mi_T_isAlwaysOne.2.1 56 = .ok (.iconst (0), 1) := by decide +kernel
theorem d_T_isAlwaysOne_57 : decode mi_T_isAlwaysOne.2.1 57 = .ok (.ireturn, 1) := by decide +kernel
theorem d_T_isAlwaysOne_58 : decode mi_T_isAlwaysOne.2.1 58 = .ok (.iconst (0), 1) := by decide +kernel
theorem d_T_isAlwaysOne_59 : decode mi_T_isAlwaysOne.2.1 59 = .ok (.istore_n 2, 1) := by decide +kernel
theorem d_T_isAlwaysOne_60 : decode mi_T_isAlwaysOne.2.1 60 = .ok (.iload_n 2, 1) := by decide +kernel
theorem d_T_isAlwaysOne_61 : decode mi_T_isAlwaysOne.2.1 61 = .ok (.aload_n 0, 1) := by decide +kernel
theorem d_T_isAlwaysOne_62 : decode mi_T_isAlwaysOne.2.1 62 = .ok (.getfield 41, 3) := by decide +kernel
theorem d_T_isAlwaysOne_65 : decode mi_T_isAlwaysOne.2.1 65 = .ok (.arraylength, 1) := by decide +kernel
theorem d_T_isAlwaysOne_66 : decode mi_T_isAlwaysOne.2.1 66 = .ok (.if_icmp .ge (72), 3) := by decide +kernel
theorem d_T_isAlwaysOne_69 : decode mi_T_isAlwaysOne.2.1 69 = .ok (.aload_n 0, 1) := by decide +kernel
theorem d_T_isAlwaysOne_70 : decode mi_T_isAlwaysOne.2.1 70 = .ok (.getfield 13, 3) := by decide +kernel
theorem d_T_isAlwaysOne_73 : decode mi_T_isAlwaysOne.2.1 73 = .ok (.iload_n 2, 1) := by decide +kernel
theorem d_T_isAlwaysOne_74 : decode mi_T_isAlwaysOne.2.1 74 = .ok (.iconst (1), 1) := by decide +kernel
theorem d_T_isAlwaysOne_75 : decode mi_T_isAlwaysOne.2.1 75 = .ok (.aload_n 0, 1) := by decide +kernel
theorem d_T_isAlwaysOne_76 : decode mi_T_isAlwaysOne.2.1 76 = .ok (.getfield 34, 3) := by decide +kernel
theorem d_T_isAlwaysOne_79 : decode mi_T_isAlwaysOne.2.1 79 = .ok (.ishl, 1) := by decide +kernel
theorem d_T_isAlwaysOne_80 : decode mi_T_isAlwaysOne.2.1 80 = .ok (.iconst (1), 1) := by decide +kernel
theorem d_T_isAlwaysOne_81 : decode mi_T_isAlwaysOne.2.1 81 = .ok (.isub, 1) := by decide +kernel
theorem d_T_isAlwaysOne_82 : decode mi_T_isAlwaysOne.2.1 82 = .ok (.iand, 1) := by decide +kernel
theorem d_T_isAlwaysOne_83 : decode mi_T_isAlwaysOne.2.1 83 = .ok (.invokevirtual 138, 3) := by decide +kernel
theorem d_T_isAlwaysOne_86 : decode mi_T_isAlwaysOne.2.1 86 = .ok (.istore_n 3, 1) := by decide +kernel
theorem d_T_isAlwaysOne_87 : decode mi_T_isAlwaysOne.2.1 87 = .ok (.aload_n 0, 1) := by decide +kernel
theorem d_T_isAlwaysOne_88 : decode mi_T_isAlwaysOne.2.1 88 = .ok (.getfield 41, 3) := by decide +kernel
theorem d_T_isAlwaysOne_91 : decode mi_T_isAlwaysOne.2.1 91 = .ok (.iload_n 2, 1) := by decide +kernel
theorem d_T_isAlwaysOne_92 : decode mi_T_isAlwaysOne.2.1 92 = .ok (.invokestatic 104, 3) := by decide +kernel
theorem d_T_isAlwaysOne_95 : decode mi_T_isAlwaysOne.2.1 95 = .ok (.sipush (255), 3) := by decide +kernel
theorem d_T_isAlwaysOne_98 : decode mi_T_isAlwaysOne.2.1 98 = .ok (.iand, 1) := by decide +kernel
theorem d_T_isAlwaysOne_99 : decode mi_T_isAlwaysOne.2.1 99 = .ok (.istore 4, 2) := by decide +kernel
theorem d_T_isAlwaysOne_101 : decode mi_T_isAlwaysOne.2.1 101 = .ok (.iload_n 3, 1) := by decide +kernel
theorem d_T_isAlwaysOne_102 : decode mi_T_isAlwaysOne.2.1 102 = .ok (.ifCond .eq (30), 3) := by decide +kernel
theorem d_T_isAlwaysOne_105 : decode mi_T_isAlwaysOne.2.1 105 = .ok (.aload_n 0, 1) := by decide +kernel
theorem d_T_isAlwaysOne_106 : decode mi_T_isAlwaysOne.2.1 106 = .ok (.getfield 60, 3) := by decide +kernel
theorem d_T_isAlwaysOne_109 : decode mi_T_isAlwaysOne.2.1 109 = .ok (.iload 4, 2) := by decide +kernel
theorem d_T_isAlwaysOne_111 : decode mi_T_isAlwaysOne.2.1 111 = .ok (.invokestatic 104, 3) := by decide +kernel
theorem d_T_isAlwaysOne_114 : decode mi_T_isAlwaysOne.2.1 114 = .ok (.ifCond .ne (18), 3) := by decide +kernel
theorem d_T_isAlwaysOne_117 : decode mi_T_isAlwaysOne.2.1 117 = .ok (.aload_n 0, 1) := by decide +kernel
theorem d_T_isAlwaysOne_118 : decode mi_T_isAlwaysOne.2.1 118 = .ok (.getfield 13, 3) := by decide +kernel
theorem d_T_isAlwaysOne_121 : decode mi_T_isAlwaysOne.2.1 121 = .ok (.iload_n 1, 1) := by decide +kernel
theorem d_T_isAlwaysOne_122 : decode mi_T_isAlwaysOne.2.1 122 = .ok (.iload_n 2, 1) := by decide +kernel
theorem d_T_isAlwaysOne_123 : decode mi_T_isAlwaysOne.2.1 123 = .ok (.invokevirtual 89, 3) := by decide +kernel
theorem d_T_isAlwaysOne_126 : decode mi_T_isAlwaysOne.2.1 126 = .ok (.iconst (1), 1) := by decide +kernel
theorem d_T_isAlwaysOne_127 : decode mi_T_isAlwaysOne.2.1 127 = .ok (.if_icmp .ne (5), 3) := by decide +kernel
theorem d_T_isAlwaysOne_130 : decode mi_T_isAlwaysOne.2.1 130 = .ok (.iconst (0), 1) := by decide +kernel
theorem d_T_isAlwaysOne_131 : decode mi_T_isAlwaysOne.2.1 131 = .ok (.ireturn, 1) := by decide +kernel
theorem d_T_isAlwaysOne_132 : decode mi_T_isAlwaysOne.2.1 132 = .ok (.iinc 2 (1), 3) := by decide +kernel
theorem d_T_isAlwaysOne_135 : decode mi_T_isAlwaysOne.2.1 135 = .ok (.goto (-75), 3) := by decide +kernel
theorem d_T_isAlwaysOne_138 : decode mi_T_isAlwaysOne.2.1 138 = .ok (.iconst (1), 1) := by decide +kernel
theorem d_T_isAlwaysOne_139 : decode mi_T_isAlwaysOne.2.1 139 = .ok (.ireturn, 1) := by decide +kernel
theorem s_T_isAlwaysOne_1 : kCall TT cl6 X mi_T_isAlwaysOne 1 3 mi_T_fillFollow 2 1 6 := k_virtual (index := 113) d_T_isAlwaysOne_1 cs_T_fillFollow rfl rfl t_1_124 t_1_126 ts_0
theorem s_T_isAlwaysOne_8 : kGet TT cl6 X mi_T_isAlwaysOne 8 6 3 := k_get (index := 38) cK_6 d_T_isAlwaysOne_8 (by decide) ⟨"Miterhouse$States", Or.inl t_4_147, Or.inl rfl⟩
theorem s_T_isAlwaysOne_15 : kGet TT cl6 X mi_T_isAlwaysOne 15 6 10 := k_get (index := 60) cK_6 d_T_isAlwaysOne_15 (by decide) ⟨"Miterhouse$States", Or.inl t_4_154, Or.inl rfl⟩
theorem s_T_isAlwaysOne_22 : kCall TT cl6 X mi_T_isAlwaysOne 22 3 mi_T_isOneIn 2 3 6 := k_virtual (index := 164) d_T_isAlwaysOne_22 cs_T_isOneIn rfl rfl t_6_60 t_6_62 ts_31
theorem s_T_isAlwaysOne_33 : kCall TT cl6 X mi_T_isAlwaysOne 33 3 mi_M_putNumber 4 3 0 := k_staticN (index := 134) d_T_isAlwaysOne_33 cs_M_putNumber rfl t_1_183 t_1_184
theorem s_T_isAlwaysOne_43 : kGet TT cl6 X mi_T_isAlwaysOne 43 6 10 := k_get (index := 60) cK_6 d_T_isAlwaysOne_43 (by decide) ⟨"Miterhouse$States", Or.inl t_4_154, Or.inl rfl⟩
theorem s_T_isAlwaysOne_47 : kCall TT cl6 X mi_T_isAlwaysOne 47 3 mi_T_firstState 2 1 6 := k_virtual (index := 122) d_T_isAlwaysOne_47 cs_T_firstState rfl rfl t_1_171 t_1_173 ts_3
theorem s_T_isAlwaysOne_50 : kCall TT cl6 X mi_T_isAlwaysOne 50 3 mi_M_numberAt 4 2 0 := k_staticN (index := 104) d_T_isAlwaysOne_50 cs_M_numberAt rfl t_1_186 t_1_138
theorem s_T_isAlwaysOne_62 : kGet TT cl6 X mi_T_isAlwaysOne 62 6 4 := k_get (index := 41) cK_6 d_T_isAlwaysOne_62 (by decide) ⟨"Miterhouse$States", Or.inl t_4_148, Or.inl rfl⟩
theorem s_T_isAlwaysOne_70 : kGet TT cl6 X mi_T_isAlwaysOne 70 6 1 := k_get (index := 13) cK_6 d_T_isAlwaysOne_70 (by decide) ⟨"Miterhouse$States", Or.inl t_4_145, Or.inl rfl⟩
theorem s_T_isAlwaysOne_76 : kGet TT cl6 X mi_T_isAlwaysOne 76 6 2 := k_get (index := 34) cK_6 d_T_isAlwaysOne_76 (by decide) ⟨"Miterhouse$States", Or.inl t_4_146, Or.inl rfl⟩
theorem s_T_isAlwaysOne_83 : kCall TT cl6 X mi_T_isAlwaysOne 83 3 mi_V_areKeptInputs 2 2 3 := k_virtual (index := 138) d_T_isAlwaysOne_83 cs_V_areKeptInputs rfl rfl t_1_191 t_1_192 t_1_193
theorem s_T_isAlwaysOne_88 : kGet TT cl6 X mi_T_isAlwaysOne 88 6 4 := k_get (index := 41) cK_6 d_T_isAlwaysOne_88 (by decide) ⟨"Miterhouse$States", Or.inl t_4_148, Or.inl rfl⟩
theorem s_T_isAlwaysOne_92 : kCall TT cl6 X mi_T_isAlwaysOne 92 3 mi_M_numberAt 4 2 0 := k_staticN (index := 104) d_T_isAlwaysOne_92 cs_M_numberAt rfl t_1_186 t_1_138
theorem s_T_isAlwaysOne_106 : kGet TT cl6 X mi_T_isAlwaysOne 106 6 10 := k_get (index := 60) cK_6 d_T_isAlwaysOne_106 (by decide) ⟨"Miterhouse$States", Or.inl t_4_154, Or.inl rfl⟩
theorem s_T_isAlwaysOne_111 : kCall TT cl6 X mi_T_isAlwaysOne 111 3 mi_M_numberAt 4 2 0 := k_staticN (index := 104) d_T_isAlwaysOne_111 cs_M_numberAt rfl t_1_186 t_1_138
theorem s_T_isAlwaysOne_118 : kGet TT cl6 X mi_T_isAlwaysOne 118 6 1 := k_get (index := 13) cK_6 d_T_isAlwaysOne_118 (by decide) ⟨"Miterhouse$States", Or.inl t_4_145, Or.inl rfl⟩
theorem s_T_isAlwaysOne_123 : kCall TT cl6 X mi_T_isAlwaysOne 123 3 mi_V_bitAtChoice 2 3 3 := k_virtual (index := 89) d_T_isAlwaysOne_123 cs_V_bitAtChoice rfl rfl t_1_144 t_1_145 t_1_146
theorem d_T_isOneIn_0 : decode mi_T_isOneIn.2.1 0 = .ok (.iconst (0), 1) := by decide +kernel
theorem d_T_isOneIn_1 : decode mi_T_isOneIn.2.1 1 = .ok (.istore_n 3, 1) := by decide +kernel
theorem d_T_isOneIn_2 : decode mi_T_isOneIn.2.1 2 = .ok (.iload_n 3, 1) := by decide +kernel
theorem d_T_isOneIn_3 : decode mi_T_isOneIn.2.1 3 = .ok (.iconst (1), 1) := by decide +kernel
theorem d_T_isOneIn_4 : decode mi_T_isOneIn.2.1 4 = .ok (.aload_n 0, 1) := by decide +kernel
theorem d_T_isOneIn_5 : decode mi_T_isOneIn.2.1 5 = .ok (.getfield 34, 3) := by decide +kernel
theorem d_T_isOneIn_8 : decode mi_T_isOneIn.2.1 8 = .ok (.ishl, 1) := by decide +kernel
theorem d_T_isOneIn_9 : decode mi_T_isOneIn.2.1 9 = .ok (.if_icmp .ge (41), 3) := by decide +kernel
theorem d_T_isOneIn_12 : decode mi_T_isOneIn.2.1 12 = .ok (.aload_n 0, 1) := by decide +kernel
theorem d_T_isOneIn_13 : decode mi_T_isOneIn.2.1 13 = .ok (.getfield 13, 3) := by decide +kernel
theorem d_T_isOneIn_16 : decode mi_T_isOneIn.2.1 16 = .ok (.iload_n 3, 1) := by decide +kernel
theorem d_T_isOneIn_17 : decode mi_T_isOneIn.2.1 17 = .ok (.invokevirtual 138, 3) := by decide +kernel
theorem d_T_isOneIn_20 : decode mi_T_isOneIn.2.1 20 = .ok (.ifCond .eq (24), 3) := by decide +kernel
theorem d_T_isOneIn_23 : decode mi_T_isOneIn.2.1 23 = .ok (.aload_n 0, 1) := by decide +kernel
theorem d_T_isOneIn_24 : decode mi_T_isOneIn.2.1 24 = .ok (.getfield 13, 3) := by decide +kernel
theorem d_T_isOneIn_27 : decode mi_T_isOneIn.2.1 27 = .ok (.iload_n 1, 1) := by decide +kernel
theorem d_T_isOneIn_28 : decode mi_T_isOneIn.2.1 28 = .ok (.iload_n 2, 1) := by decide +kernel
theorem d_T_isOneIn_29 : decode mi_T_isOneIn.2.1 29 = .ok (.aload_n 0, 1) := by decide +kernel
theorem d_T_isOneIn_30 : decode mi_T_isOneIn.2.1 30 = .ok (.getfield 34, 3) := by decide +kernel
theorem d_T_isOneIn_33 : decode mi_T_isOneIn.2.1 33 = .ok (.ishl, 1) := by decide +kernel
theorem d_T_isOneIn_34 : decode mi_T_isOneIn.2.1 34 = .ok (.iload_n 3, 1) := by decide +kernel
theorem d_T_isOneIn_35 : decode mi_T_isOneIn.2.1 35 = .ok (.ior, 1) := by decide +kernel
theorem d_T_isOneIn_36 : decode mi_T_isOneIn.2.1 36 = .ok (.invokevirtual 89, 3) := by decide +kernel
theorem d_T_isOneIn_39 : decode mi_T_isOneIn.2.1 39 = .ok (.ifCond .ne (5), 3) := by decide +kernel
theorem d_T_isOneIn_42 : decode mi_T_isOneIn.2.1 42 = .ok (.iconst (0), 1) := by decide +kernel
theorem d_T_isOneIn_43 : decode mi_T_isOneIn.2.1 43 = .ok (.ireturn, 1) := by decide +kernel
theorem d_T_isOneIn_44 : decode mi_T_isOneIn.2.1 44 = .ok (.iinc 3 (1), 3) := by decide +kernel
theorem d_T_isOneIn_47 : decode mi_T_isOneIn.2.1 47 = .ok (.goto (-45), 3) := by decide +kernel
theorem d_T_isOneIn_50 : decode mi_T_isOneIn.2.1 50 = .ok (.iconst (1), 1) := by decide +kernel
theorem d_T_isOneIn_51 : decode mi_T_isOneIn.2.1 51 = .ok (.ireturn, 1) := by decide +kernel
theorem s_T_isOneIn_5 : kGet TT cl6 X mi_T_isOneIn 5 6 2 := k_get (index := 34) cK_6 d_T_isOneIn_5 (by decide) ⟨"Miterhouse$States", Or.inl t_4_146, Or.inl rfl⟩
theorem s_T_isOneIn_13 : kGet TT cl6 X mi_T_isOneIn 13 6 1 := k_get (index := 13) cK_6 d_T_isOneIn_13 (by decide) ⟨"Miterhouse$States", Or.inl t_4_145, Or.inl rfl⟩
theorem s_T_isOneIn_17 : kCall TT cl6 X mi_T_isOneIn 17 3 mi_V_areKeptInputs 2 2 3 := k_virtual (index := 138) d_T_isOneIn_17 cs_V_areKeptInputs rfl rfl t_1_191 t_1_192 t_1_193
theorem s_T_isOneIn_24 : kGet TT cl6 X mi_T_isOneIn 24 6 1 := k_get (index := 13) cK_6 d_T_isOneIn_24 (by decide) ⟨"Miterhouse$States", Or.inl t_4_145, Or.inl rfl⟩
theorem s_T_isOneIn_30 : kGet TT cl6 X mi_T_isOneIn 30 6 2 := k_get (index := 34) cK_6 d_T_isOneIn_30 (by decide) ⟨"Miterhouse$States", Or.inl t_4_146, Or.inl rfl⟩
theorem s_T_isOneIn_36 : kCall TT cl6 X mi_T_isOneIn 36 3 mi_V_bitAtChoice 2 3 3 := k_virtual (index := 89) d_T_isOneIn_36 cs_V_bitAtChoice rfl rfl t_1_144 t_1_145 t_1_146
theorem d_T_isProvedBy_0 : decode mi_T_isProvedBy.2.1 0 = .ok (.aload_n 0, 1) := by decide +kernel
theorem d_T_isProvedBy_1 : decode mi_T_isProvedBy.2.1 1 = .ok (.invokevirtual 149, 3) := by decide +kernel
theorem d_T_isProvedBy_4 : decode mi_T_isProvedBy.2.1 4 = .ok (.aload_n 0, 1) := by decide +kernel
theorem d_T_isProvedBy_5 : decode mi_T_isProvedBy.2.1 5 = .ok (.getfield 76, 3) := by decide +kernel
theorem d_T_isProvedBy_8 : decode mi_T_isProvedBy.2.1 8 = .ok (.ifCond .lt (13), 3) := by decide +kernel
theorem d_T_isProvedBy_11 : decode mi_T_isProvedBy.2.1 11 = .ok (.aload_n 0, 1) := by decide +kernel
theorem d_T_isProvedBy_12 : decode mi_T_isProvedBy.2.1 12 = .ok (.getfield 76, 3) := by decide +kernel
theorem d_T_isProvedBy_15 : decode mi_T_isProvedBy.2.1 15 = .ok (.iload_n 1, 1) := by decide +kernel
theorem d_T_isProvedBy_16 : decode mi_T_isProvedBy.2.1 16 = .ok (.if_icmp .ge (5), 3) := by decide +kernel
theorem d_T_isProvedBy_19 : decode mi_T_isProvedBy.2.1 19 = .ok (.iconst (0), 1) := by decide +kernel
theorem d_T_isProvedBy_20 : decode mi_T_isProvedBy.2.1 20 = .ok (.ireturn, 1) := by decide +kernel
theorem d_T_isProvedBy_21 : decode mi_T_isProvedBy.2.1 21 = .ok (.aload_n 0, 1) := by decide +kernel
theorem d_T_isProvedBy_22 : decode mi_T_isProvedBy.2.1 22 = .ok (.getfield 60, 3) := by decide +kernel
theorem d_T_isProvedBy_25 : decode mi_T_isProvedBy.2.1 25 = .ok (.iconst (1), 1) := by decide +kernel
theorem d_T_isProvedBy_26 : decode mi_T_isProvedBy.2.1 26 = .ok (.invokestatic 116, 3) := by decide +kernel
theorem d_T_isProvedBy_29 : decode mi_T_isProvedBy.2.1 29 = .ok (.iconst (0), 1) := by decide +kernel
theorem d_T_isProvedBy_30 : decode mi_T_isProvedBy.2.1 30 = .ok (.istore_n 2, 1) := by decide +kernel
theorem d_T_isProvedBy_31 : decode mi_T_isProvedBy.2.1 31 = .ok (.iload_n 2, 1) := by decide +kernel
theorem d_T_isProvedBy_32 : decode mi_T_isProvedBy.2.1 32 = .ok (.iload_n 1, 1) := by decide +kernel
theorem d_T_isProvedBy_33 : decode mi_T_isProvedBy.2.1 33 = .ok (.if_icmp .ge (13), 3) := by decide +kernel
theorem d_T_isProvedBy_36 : decode mi_T_isProvedBy.2.1 36 = .ok (.aload_n 0, 1) := by decide +kernel
theorem d_T_isProvedBy_37 : decode mi_T_isProvedBy.2.1 37 = .ok (.invokevirtual 152, 3) := by decide +kernel
theorem d_T_isProvedBy_40 : decode mi_T_isProvedBy.2.1 40 = .ok (.iinc 2 (1), 3) := by decide +kernel
theorem d_T_isProvedBy_43 : decode mi_T_isProvedBy.2.1 43 = .ok (.goto (-12), 3) := by decide +kernel
theorem d_T_isProvedBy_46 : decode mi_T_isProvedBy.2.1 46 = .ok (.iconst (0), 1) := by decide +kernel
theorem d_T_isProvedBy_47 : decode mi_T_isProvedBy.2.1 47 = .ok (.istore_n 2, 1) := by decide +kernel
theorem d_T_isProvedBy_48 : decode mi_T_isProvedBy.2.1 48 = .ok (.iload_n 2, 1) := by decide +kernel
theorem d_T_isProvedBy_49 : decode mi_T_isProvedBy.2.1 49 = .ok (.aload_n 0, 1) := by decide +kernel
theorem d_T_isProvedBy_50 : decode mi_T_isProvedBy.2.1 50 = .ok (.getfield 38, 3) := by decide +kernel
theorem d_T_isProvedBy_53 : decode mi_T_isProvedBy.2.1 53 = .ok (.if_icmp .ge (31), 3) := by decide +kernel
theorem d_T_isProvedBy_56 : decode mi_T_isProvedBy.2.1 56 = .ok (.aload_n 0, 1) := by decide +kernel
theorem d_T_isProvedBy_57 : decode mi_T_isProvedBy.2.1 57 = .ok (.getfield 60, 3) := by decide +kernel
theorem d_T_isProvedBy_60 : decode mi_T_isProvedBy.2.1 60 = .ok (.iload_n 2, 1) := by decide +kernel
theorem d_T_isProvedBy_61 : decode mi_T_isProvedBy.2.1 61 = .ok (.invokestatic 104, 3) := by decide +kernel
theorem d_T_isProvedBy_64 : decode mi_T_isProvedBy.2.1 64 = .ok (.iconst (1), 1) := by decide +kernel
theorem d_T_isProvedBy_65 : decode mi_T_isProvedBy.2.1 65 = .ok (.if_icmp .ne (13), 3) := by decide +kernel
theorem d_T_isProvedBy_68 : decode mi_T_isProvedBy.2.1 68 = .ok (.aload_n 0, 1) := by decide +kernel
theorem d_T_isProvedBy_69 : decode mi_T_isProvedBy.2.1 69 = .ok (.iload_n 2, 1) := by decide +kernel
theorem d_T_isProvedBy_70 : decode mi_T_isProvedBy.2.1 70 = .ok (.invokevirtual 155, 3) := by decide +kernel
theorem d_T_isProvedBy_73 : decode mi_T_isProvedBy.2.1 73 = .ok (.ifCond .eq (5), 3) := by decide +kernel
theorem d_T_isProvedBy_76 : decode mi_T_isProvedBy.2.1 76 = .ok (.iconst (0), 1) := by decide +kernel
theorem d_T_isProvedBy_77 : decode mi_T_isProvedBy.2.1 77 = .ok (.ireturn, 1) := by decide +kernel
theorem d_T_isProvedBy_78 : decode mi_T_isProvedBy.2.1 78 = .ok (.iinc 2 (1), 3) := by decide +kernel
theorem d_T_isProvedBy_81 : decode mi_T_isProvedBy.2.1 81 = .ok (.goto (-33), 3) := by decide +kernel
theorem d_T_isProvedBy_84 : decode mi_T_isProvedBy.2.1 84 = .ok (.iconst (1), 1) := by decide +kernel
theorem d_T_isProvedBy_85 : decode mi_T_isProvedBy.2.1 85 = .ok (.ireturn, 1) := by decide +kernel
theorem s_T_isProvedBy_1 : kCall TT cl6 X mi_T_isProvedBy 1 3 mi_T_search 2 1 6 := k_virtual (index := 149) d_T_isProvedBy_1 cs_T_search rfl rfl t_6_37 t_1_121 t_1_122
theorem s_T_isProvedBy_5 : kGet TT cl6 X mi_T_isProvedBy 5 6 15 := k_get (index := 76) cK_6 d_T_isProvedBy_5 (by decide) ⟨"Miterhouse$States", Or.inl t_4_160, Or.inl rfl⟩
theorem s_T_isProvedBy_12 : kGet TT cl6 X mi_T_isProvedBy 12 6 15 := k_get (index := 76) cK_6 d_T_isProvedBy_12 (by decide) ⟨"Miterhouse$States", Or.inl t_4_160, Or.inl rfl⟩
theorem s_T_isProvedBy_22 : kGet TT cl6 X mi_T_isProvedBy 22 6 10 := k_get (index := 60) cK_6 d_T_isProvedBy_22 (by decide) ⟨"Miterhouse$States", Or.inl t_4_154, Or.inl rfl⟩
theorem s_T_isProvedBy_26 : kCall TT cl6 X mi_T_isProvedBy 26 3 mi_J_fill 1 2 0 := k_static (index := 116) d_T_isProvedBy_26 cs_J_fill t_1_168 t_1_169
theorem s_T_isProvedBy_37 : kCall TT cl6 X mi_T_isProvedBy 37 3 mi_T_stepAlike 2 1 6 := k_virtual (index := 152) d_T_isProvedBy_37 cs_T_stepAlike rfl rfl t_6_38 t_6_40 ts_29
theorem s_T_isProvedBy_50 : kGet TT cl6 X mi_T_isProvedBy 50 6 3 := k_get (index := 38) cK_6 d_T_isProvedBy_50 (by decide) ⟨"Miterhouse$States", Or.inl t_4_147, Or.inl rfl⟩
theorem s_T_isProvedBy_57 : kGet TT cl6 X mi_T_isProvedBy 57 6 10 := k_get (index := 60) cK_6 d_T_isProvedBy_57 (by decide) ⟨"Miterhouse$States", Or.inl t_4_154, Or.inl rfl⟩
theorem s_T_isProvedBy_61 : kCall TT cl6 X mi_T_isProvedBy 61 3 mi_M_numberAt 4 2 0 := k_staticN (index := 104) d_T_isProvedBy_61 cs_M_numberAt rfl t_1_186 t_1_138
theorem s_T_isProvedBy_70 : kCall TT cl6 X mi_T_isProvedBy 70 3 mi_T_canDiffer 2 2 6 := k_virtual (index := 155) d_T_isProvedBy_70 cs_T_canDiffer rfl rfl t_6_45 t_6_47 ts_30
theorem d_T_isTraceRight_0 : decode mi_T_isTraceRight.2.1 0 = .ok (.aload_n 0, 1) := by decide +kernel
theorem d_T_isTraceRight_1 : decode mi_T_isTraceRight.2.1 1 = .ok (.invokevirtual 122, 3) := by decide +kernel
theorem d_T_isTraceRight_4 : decode mi_T_isTraceRight.2.1 4 = .ok (.istore_n 1, 1) := by decide +kernel
theorem d_T_isTraceRight_5 : decode mi_T_isTraceRight.2.1 5 = .ok (.iconst (0), 1) := by decide +kernel
theorem d_T_isTraceRight_6 : decode mi_T_isTraceRight.2.1 6 = .ok (.istore_n 2, 1) := by decide +kernel
theorem d_T_isTraceRight_7 : decode mi_T_isTraceRight.2.1 7 = .ok (.iload_n 2, 1) := by decide +kernel
theorem d_T_isTraceRight_8 : decode mi_T_isTraceRight.2.1 8 = .ok (.aload_n 0, 1) := by decide +kernel
theorem d_T_isTraceRight_9 : decode mi_T_isTraceRight.2.1 9 = .ok (.getfield 76, 3) := by decide +kernel
theorem d_T_isTraceRight_12 : decode mi_T_isTraceRight.2.1 12 = .ok (.if_icmp .ge (26), 3) := by decide +kernel
theorem d_T_isTraceRight_15 : decode mi_T_isTraceRight.2.1 15 = .ok (.aload_n 0, 1) := by decide +kernel
theorem d_T_isTraceRight_16 : decode mi_T_isTraceRight.2.1 16 = .ok (.iload_n 1, 1) := by decide +kernel
theorem d_T_isTraceRight_17 : decode mi_T_isTraceRight.2.1 17 = .ok (.aload_n 0, 1) := by decide +kernel
theorem d_T_isTraceRight_18 : decode mi_T_isTraceRight.2.1 18 = .ok (.getfield 34, 3) := by decide +kernel
theorem d_T_isTraceRight_21 : decode mi_T_isTraceRight.2.1 21 = .ok (.ishl, 1) := by decide +kernel
theorem d_T_isTraceRight_22 : decode mi_T_isTraceRight.2.1 22 = .ok (.aload_n 0, 1) := by decide +kernel
theorem d_T_isTraceRight_23 : decode mi_T_isTraceRight.2.1 23 = .ok (.iload_n 2, 1) := by decide +kernel
theorem d_T_isTraceRight_24 : decode mi_T_isTraceRight.2.1 24 = .ok (.invokevirtual 168, 3) := by decide +kernel
theorem d_T_isTraceRight_27 : decode mi_T_isTraceRight.2.1 27 = .ok (.ior, 1) := by decide +kernel
theorem d_T_isTraceRight_28 : decode mi_T_isTraceRight.2.1 28 = .ok (.invokevirtual 101, 3) := by decide +kernel
theorem d_T_isTraceRight_31 : decode mi_T_isTraceRight.2.1 31 = .ok (.istore_n 1, 1) := by decide +kernel
theorem d_T_isTraceRight_32 : decode mi_T_isTraceRight.2.1 32 = .ok (.iinc 2 (1), 3) := by decide +kernel
theorem d_T_isTraceRight_35 : decode mi_T_isTraceRight.2.1 35 = .ok (.goto (-28), 3) := by decide +kernel
theorem d_T_isTraceRight_38 : decode mi_T_isTraceRight.2.1 38 = .ok (.iload_n 1, 1) := by decide +kernel
theorem d_T_isTraceRight_39 : decode mi_T_isTraceRight.2.1 39 = .ok (.aload_n 0, 1) := by decide +kernel
theorem d_T_isTraceRight_40 : decode mi_T_isTraceRight.2.1 40 = .ok (.getfield 34, 3) := by decide +kernel
theorem d_T_isTraceRight_43 : decode mi_T_isTraceRight.2.1 43 = .ok (.ishl, 1) := by decide +kernel
theorem d_T_isTraceRight_44 : decode mi_T_isTraceRight.2.1 44 = .ok (.aload_n 0, 1) := by decide +kernel
theorem d_T_isTraceRight_45 : decode mi_T_isTraceRight.2.1 45 = .ok (.aload_n 0, 1) := by decide +kernel
theorem d_T_isTraceRight_46 : decode mi_T_isTraceRight.2.1 46 = .ok (.getfield 76, 3) := by decide +kernel
theorem d_T_isTraceRight_49 : decode mi_T_isTraceRight.2.1 49 = .ok (.invokevirtual 168, 3) := by decide +kernel
theorem d_T_isTraceRight_52 : decode mi_T_isTraceRight.2.1 52 = .ok (.ior, 1) := by decide +kernel
theorem d_T_isTraceRight_53 : decode mi_T_isTraceRight.2.1 53 = .ok (.istore_n 2, 1) := by decide +kernel
theorem d_T_isTraceRight_54 : decode mi_T_isTraceRight.2.1 54 = .ok (.aload_n 0, 1) := by decide +kernel
theorem d_T_isTraceRight_55 : decode mi_T_isTraceRight.2.1 55 = .ok (.getfield 76, 3) := by decide +kernel
theorem d_T_isTraceRight_58 : decode mi_T_isTraceRight.2.1 58 = .ok (.ifCond .lt (18), 3) := by decide +kernel
theorem d_T_isTraceRight_61 : decode mi_T_isTraceRight.2.1 61 = .ok (.aload_n 0, 1) := by decide +kernel
theorem d_T_isTraceRight_62 : decode mi_T_isTraceRight.2.1 62 = .ok (.iconst (0), 1) := by decide +kernel
theorem d_T_isTraceRight_63 : decode mi_T_isTraceRight.2.1 63 = .ok (.iload_n 2, 1) := by decide +kernel
theorem d_T_isTraceRight_64 : decode mi_T_isTraceRight.2.1 64 = .ok (.invokevirtual 98, 3) := by decide +kernel
theorem d_T_isTraceRight_67 : decode mi_T_isTraceRight.2.1 67 = .ok (.aload_n 0, 1) := by decide +kernel
theorem d_T_isTraceRight_68 : decode mi_T_isTraceRight.2.1 68 = .ok (.iconst (1), 1) := by decide +kernel
theorem d_T_isTraceRight_69 : decode mi_T_isTraceRight.2.1 69 = .ok (.iload_n 2, 1) := by decide +kernel
theorem d_T_isTraceRight_70 : decode mi_T_isTraceRight.2.1 70 = .ok (.invokevirtual 98, 3) := by decide +kernel
theorem d_T_isTraceRight_73 : decode mi_T_isTraceRight.2.1 73 = .ok (.if_icmp .eq (7), 3) := by decide +kernel
theorem d_T_isTraceRight_76 : decode mi_T_isTraceRight.2.1 76 = .ok (.iconst (1), 1) := by decide +kernel
theorem d_T_isTraceRight_77 : decode mi_T_isTraceRight.2.1 77 = .ok (.goto (4), 3) := by decide +kernel
theorem d_T_isTraceRight_80 : decode mi_T_isTraceRight.2.1 80 = .ok (.iconst (0), 1) := by decide +kernel
theorem d_T_isTraceRight_81 : decode mi_T_isTraceRight.2.1 81 = .ok (.ireturn, 1) := by decide +kernel
theorem s_T_isTraceRight_1 : kCall TT cl6 X mi_T_isTraceRight 1 3 mi_T_firstState 2 1 6 := k_virtual (index := 122) d_T_isTraceRight_1 cs_T_firstState rfl rfl t_1_171 t_1_173 ts_3
theorem s_T_isTraceRight_9 : kGet TT cl6 X mi_T_isTraceRight 9 6 15 := k_get (index := 76) cK_6 d_T_isTraceRight_9 (by decide) ⟨"Miterhouse$States", Or.inl t_4_160, Or.inl rfl⟩
theorem s_T_isTraceRight_18 : kGet TT cl6 X mi_T_isTraceRight 18 6 2 := k_get (index := 34) cK_6 d_T_isTraceRight_18 (by decide) ⟨"Miterhouse$States", Or.inl t_4_146, Or.inl rfl⟩
theorem s_T_isTraceRight_24 : kCall TT cl6 X mi_T_isTraceRight 24 3 mi_T_traceAt 2 2 6 := k_virtual (index := 168) d_T_isTraceRight_24 cs_T_traceAt rfl rfl t_2_62 t_2_63 t_2_64
theorem s_T_isTraceRight_28 : kCall TT cl6 X mi_T_isTraceRight 28 3 mi_T_stateBehind 2 2 6 := k_virtual (index := 101) d_T_isTraceRight_28 cs_T_stateBehind rfl rfl t_1_156 t_1_158 ts_2
theorem s_T_isTraceRight_40 : kGet TT cl6 X mi_T_isTraceRight 40 6 2 := k_get (index := 34) cK_6 d_T_isTraceRight_40 (by decide) ⟨"Miterhouse$States", Or.inl t_4_146, Or.inl rfl⟩
theorem s_T_isTraceRight_46 : kGet TT cl6 X mi_T_isTraceRight 46 6 15 := k_get (index := 76) cK_6 d_T_isTraceRight_46 (by decide) ⟨"Miterhouse$States", Or.inl t_4_160, Or.inl rfl⟩
theorem s_T_isTraceRight_49 : kCall TT cl6 X mi_T_isTraceRight 49 3 mi_T_traceAt 2 2 6 := k_virtual (index := 168) d_T_isTraceRight_49 cs_T_traceAt rfl rfl t_2_62 t_2_63 t_2_64
theorem s_T_isTraceRight_55 : kGet TT cl6 X mi_T_isTraceRight 55 6 15 := k_get (index := 76) cK_6 d_T_isTraceRight_55 (by decide) ⟨"Miterhouse$States", Or.inl t_4_160, Or.inl rfl⟩
theorem s_T_isTraceRight_64 : kCall TT cl6 X mi_T_isTraceRight 64 3 mi_T_outputsAt 2 3 6 := k_virtual (index := 98) d_T_isTraceRight_64 cs_T_outputsAt rfl rfl t_1_129 t_1_131 ts_1
theorem s_T_isTraceRight_70 : kCall TT cl6 X mi_T_isTraceRight 70 3 mi_T_outputsAt 2 3 6 := k_virtual (index := 98) d_T_isTraceRight_70 cs_T_outputsAt rfl rfl t_1_129 t_1_131 ts_1
theorem d_T_meet_0 : decode mi_T_meet.2.1 0 = .ok (.aload_n 0, 1) := by decide +kernel
theorem d_T_meet_1 : decode mi_T_meet.2.1 1 = .ok (.getfield 45, 3) := by decide +kernel
theorem d_T_meet_4 : decode mi_T_meet.2.1 4 = .ok (.aload_n 0, 1) := by decide +kernel
theorem d_T_meet_5 : decode mi_T_meet.2.1 5 = .ok (.getfield 73, 3) := by decide +kernel
theorem d_T_meet_8 : decode mi_T_meet.2.1 8 = .ok (.iload_n 1, 1) := by decide +kernel
theorem d_T_meet_9 : decode mi_T_meet.2.1 9 = .ok (.invokestatic 134, 3) := by decide +kernel
theorem d_T_meet_12 : decode mi_T_meet.2.1 12 = .ok (.aload_n 0, 1) := by decide +kernel
theorem d_T_meet_13 : decode mi_T_meet.2.1 13 = .ok (.getfield 48, 3) := by decide +kernel
theorem d_T_meet_16 : decode mi_T_meet.2.1 16 = .ok (.iload_n 1, 1) := by decide +kernel
theorem d_T_meet_17 : decode mi_T_meet.2.1 17 = .ok (.iload_n 2, 1) := by decide +kernel
theorem d_T_meet_18 : decode mi_T_meet.2.1 18 = .ok (.invokestatic 134, 3) := by decide +kernel
theorem d_T_meet_21 : decode mi_T_meet.2.1 21 = .ok (.aload_n 0, 1) := by decide +kernel
theorem d_T_meet_22 : decode mi_T_meet.2.1 22 = .ok (.getfield 51, 3) := by decide +kernel
theorem d_T_meet_25 : decode mi_T_meet.2.1 25 = .ok (.iload_n 1, 1) := by decide +kernel
theorem d_T_meet_26 : decode mi_T_meet.2.1 26 = .ok (.iload_n 3, 1) := by decide +kernel
theorem d_T_meet_27 : decode mi_T_meet.2.1 27 = .ok (.invokestatic 134, 3) := by decide +kernel
theorem d_T_meet_30 : decode mi_T_meet.2.1 30 = .ok (.aload_n 0, 1) := by decide +kernel
theorem d_T_meet_31 : decode mi_T_meet.2.1 31 = .ok (.getfield 54, 3) := by decide +kernel
theorem d_T_meet_34 : decode mi_T_meet.2.1 34 = .ok (.iload_n 1, 1) := by decide +kernel
theorem d_T_meet_35 : decode mi_T_meet.2.1 35 = .ok (.iload 4, 2) := by decide +kernel
theorem d_T_meet_37 : decode mi_T_meet.2.1 37 = .ok (.invokestatic 134, 3) := by decide +kernel
theorem d_T_meet_40 : decode mi_T_meet.2.1 40 = .ok (.aload_n 0, 1) := by decide +kernel
theorem d_T_meet_41 : decode mi_T_meet.2.1 41 = .ok (.dup, 1) := by decide +kernel
theorem d_T_meet_42 : decode mi_T_meet.2.1 42 = .ok (.getfield 73, 3) := by decide +kernel
theorem d_T_meet_45 : decode mi_T_meet.2.1 45 = .ok (.iconst (1), 1) := by decide +kernel
theorem d_T_meet_46 : decode mi_T_meet.2.1 46 = .ok (.iadd, 1) := by decide +kernel
theorem d_T_meet_47 : decode mi_T_meet.2.1 47 = .ok (.putfield 73, 3) := by decide +kernel
theorem d_T_meet_50 : decode mi_T_meet.2.1 50 = .ok (.return_, 1) := by decide +kernel
theorem s_T_meet_1 : kGet TT cl6 X mi_T_meet 1 6 5 := k_get (index := 45) cK_6 d_T_meet_1 (by decide) ⟨"Miterhouse$States", Or.inl t_4_149, Or.inl rfl⟩
theorem s_T_meet_5 : kGet TT cl6 X mi_T_meet 5 6 14 := k_get (index := 73) cK_6 d_T_meet_5 (by decide) ⟨"Miterhouse$States", Or.inl t_4_158, Or.inl rfl⟩
theorem s_T_meet_9 : kCall TT cl6 X mi_T_meet 9 3 mi_M_putNumber 4 3 0 := k_staticN (index := 134) d_T_meet_9 cs_M_putNumber rfl t_1_183 t_1_184
theorem s_T_meet_13 : kGet TT cl6 X mi_T_meet 13 6 6 := k_get (index := 48) cK_6 d_T_meet_13 (by decide) ⟨"Miterhouse$States", Or.inl t_4_150, Or.inl rfl⟩
theorem s_T_meet_18 : kCall TT cl6 X mi_T_meet 18 3 mi_M_putNumber 4 3 0 := k_staticN (index := 134) d_T_meet_18 cs_M_putNumber rfl t_1_183 t_1_184
theorem s_T_meet_22 : kGet TT cl6 X mi_T_meet 22 6 7 := k_get (index := 51) cK_6 d_T_meet_22 (by decide) ⟨"Miterhouse$States", Or.inl t_4_151, Or.inl rfl⟩
theorem s_T_meet_27 : kCall TT cl6 X mi_T_meet 27 3 mi_M_putNumber 4 3 0 := k_staticN (index := 134) d_T_meet_27 cs_M_putNumber rfl t_1_183 t_1_184
theorem s_T_meet_31 : kGet TT cl6 X mi_T_meet 31 6 8 := k_get (index := 54) cK_6 d_T_meet_31 (by decide) ⟨"Miterhouse$States", Or.inl t_4_152, Or.inl rfl⟩
theorem s_T_meet_37 : kCall TT cl6 X mi_T_meet 37 3 mi_M_putNumber 4 3 0 := k_staticN (index := 134) d_T_meet_37 cs_M_putNumber rfl t_1_183 t_1_184
theorem s_T_meet_42 : kGet TT cl6 X mi_T_meet 42 6 14 := k_get (index := 73) cK_6 d_T_meet_42 (by decide) ⟨"Miterhouse$States", Or.inl t_4_158, Or.inl rfl⟩
theorem s_T_meet_47 : kPut TT cl6 X mi_T_meet 47 6 14 .int := k_put (index := 73) cK_6 d_T_meet_47 (by decide) ⟨"Miterhouse$States", Or.inl t_4_158, Or.inl rfl⟩ rfl
theorem d_T_outputsAt_0 : decode mi_T_outputsAt.2.1 0 = .ok (.iconst (0), 1) := by decide +kernel
theorem d_T_outputsAt_1 : decode mi_T_outputsAt.2.1 1 = .ok (.istore_n 3, 1) := by decide +kernel
theorem d_T_outputsAt_2 : decode mi_T_outputsAt.2.1 2 = .ok (.iconst (0), 1) := by decide +kernel
theorem d_T_outputsAt_3 : decode mi_T_outputsAt.2.1 3 = .ok (.istore 4, 2) := by decide +kernel
theorem d_T_outputsAt_5 : decode mi_T_outputsAt.2.1 5 = .ok (.iload 4, 2) := by decide +kernel
theorem d_T_outputsAt_7 : decode mi_T_outputsAt.2.1 7 = .ok (.aload_n 0, 1) := by decide +kernel
theorem d_T_outputsAt_8 : decode mi_T_outputsAt.2.1 8 = .ok (.getfield 7, 3) := by decide +kernel
theorem d_T_outputsAt_11 : decode mi_T_outputsAt.2.1 11 = .ok (.iload_n 1, 1) := by decide +kernel
theorem d_T_outputsAt_12 : decode mi_T_outputsAt.2.1 12 = .ok (.invokevirtual 92, 3) := by decide +kernel
theorem d_T_outputsAt_15 : decode mi_T_outputsAt.2.1 15 = .ok (.if_icmp .ge (33), 3) := by decide +kernel
theorem d_T_outputsAt_18 : decode mi_T_outputsAt.2.1 18 = .ok (.iload_n 3, 1) := by decide +kernel
theorem d_T_outputsAt_19 : decode mi_T_outputsAt.2.1 19 = .ok (.aload_n 0, 1) := by decide +kernel
theorem d_T_outputsAt_20 : decode mi_T_outputsAt.2.1 20 = .ok (.getfield 13, 3) := by decide +kernel
theorem d_T_outputsAt_23 : decode mi_T_outputsAt.2.1 23 = .ok (.aload_n 0, 1) := by decide +kernel
theorem d_T_outputsAt_24 : decode mi_T_outputsAt.2.1 24 = .ok (.getfield 7, 3) := by decide +kernel
theorem d_T_outputsAt_27 : decode mi_T_outputsAt.2.1 27 = .ok (.iload_n 1, 1) := by decide +kernel
theorem d_T_outputsAt_28 : decode mi_T_outputsAt.2.1 28 = .ok (.iload 4, 2) := by decide +kernel
theorem d_T_outputsAt_30 : decode mi_T_outputsAt.2.1 30 = .ok (.invokevirtual 95, 3) := by decide +kernel
theorem d_T_outputsAt_33 : decode mi_T_outputsAt.2.1 33 = .ok (.iload_n 2, 1) := by decide +kernel
theorem d_T_outputsAt_34 : decode mi_T_outputsAt.2.1 34 = .ok (.invokevirtual 89, 3) := by decide +kernel
theorem d_T_outputsAt_37 : decode mi_T_outputsAt.2.1 37 = .ok (.iload 4, 2) := by decide +kernel
theorem d_T_outputsAt_39 : decode mi_T_outputsAt.2.1 39 = .ok (.ishl, 1) := by decide +kernel
theorem d_T_outputsAt_40 : decode mi_T_outputsAt.2.1 40 = .ok (.ior, 1) := by decide +kernel
theorem d_T_outputsAt_41 : decode mi_T_outputsAt.2.1 41 = .ok (.istore_n 3, 1) := by decide +kernel
theorem d_T_outputsAt_42 : decode mi_T_outputsAt.2.1 42 = .ok (.iinc 4 (1), 3) := by decide +kernel
theorem d_T_outputsAt_45 : decode mi_T_outputsAt.2.1 45 = .ok (.goto (-40), 3) := by decide +kernel
theorem d_T_outputsAt_48 : decode mi_T_outputsAt.2.1 48 = .ok (.iload_n 3, 1) := by decide +kernel
theorem d_T_outputsAt_49 : decode mi_T_outputsAt.2.1 49 = .ok (.ireturn, 1) := by decide +kernel
theorem s_T_outputsAt_8 : kGet TT cl6 X mi_T_outputsAt 8 6 0 := k_get (index := 7) cK_6 d_T_outputsAt_8 (by decide) ⟨"Miterhouse$States", Or.inl t_4_144, Or.inl rfl⟩
theorem s_T_outputsAt_12 : kCall TT cl6 X mi_T_outputsAt 12 3 mi_N_outputsOf 2 2 1 := k_virtual (index := 92) d_T_outputsAt_12 cs_N_outputsOf rfl rfl t_1_133 t_1_134 t_1_135
theorem s_T_outputsAt_20 : kGet TT cl6 X mi_T_outputsAt 20 6 1 := k_get (index := 13) cK_6 d_T_outputsAt_20 (by decide) ⟨"Miterhouse$States", Or.inl t_4_145, Or.inl rfl⟩
theorem s_T_outputsAt_24 : kGet TT cl6 X mi_T_outputsAt 24 6 0 := k_get (index := 7) cK_6 d_T_outputsAt_24 (by decide) ⟨"Miterhouse$States", Or.inl t_4_144, Or.inl rfl⟩
theorem s_T_outputsAt_30 : kCall TT cl6 X mi_T_outputsAt 30 3 mi_N_outputAt 2 3 1 := k_virtual (index := 95) d_T_outputsAt_30 cs_N_outputAt rfl rfl t_1_140 t_1_141 t_1_142
theorem s_T_outputsAt_34 : kCall TT cl6 X mi_T_outputsAt 34 3 mi_V_bitAtChoice 2 3 3 := k_virtual (index := 89) d_T_outputsAt_34 cs_V_bitAtChoice rfl rfl t_1_144 t_1_145 t_1_146
theorem d_T_outputsBehind_0 : decode mi_T_outputsBehind.2.1 0 = .ok (.aload_n 0, 1) := by decide +kernel
theorem d_T_outputsBehind_1 : decode mi_T_outputsBehind.2.1 1 = .ok (.invokevirtual 122, 3) := by decide +kernel
theorem d_T_outputsBehind_4 : decode mi_T_outputsBehind.2.1 4 = .ok (.istore 4, 2) := by decide +kernel
theorem d_T_outputsBehind_6 : decode mi_T_outputsBehind.2.1 6 = .ok (.iconst (0), 1) := by decide +kernel
theorem d_T_outputsBehind_7 : decode mi_T_outputsBehind.2.1 7 = .ok (.istore 5, 2) := by decide +kernel
theorem d_T_outputsBehind_9 : decode mi_T_outputsBehind.2.1 9 = .ok (.iload 5, 2) := by decide +kernel
theorem d_T_outputsBehind_11 : decode mi_T_outputsBehind.2.1 11 = .ok (.iload_n 2, 1) := by decide +kernel
theorem d_T_outputsBehind_12 : decode mi_T_outputsBehind.2.1 12 = .ok (.if_icmp .ge (24), 3) := by decide +kernel
theorem d_T_outputsBehind_15 : decode mi_T_outputsBehind.2.1 15 = .ok (.aload_n 0, 1) := by decide +kernel
theorem d_T_outputsBehind_16 : decode mi_T_outputsBehind.2.1 16 = .ok (.iload 4, 2) := by decide +kernel
theorem d_T_outputsBehind_18 : decode mi_T_outputsBehind.2.1 18 = .ok (.aload_n 0, 1) := by decide +kernel
theorem d_T_outputsBehind_19 : decode mi_T_outputsBehind.2.1 19 = .ok (.getfield 34, 3) := by decide +kernel
theorem d_T_outputsBehind_22 : decode mi_T_outputsBehind.2.1 22 = .ok (.ishl, 1) := by decide +kernel
theorem d_T_outputsBehind_23 : decode mi_T_outputsBehind.2.1 23 = .ok (.iload_n 3, 1) := by decide +kernel
theorem d_T_outputsBehind_24 : decode mi_T_outputsBehind.2.1 24 = .ok (.ior, 1) := by decide +kernel
theorem d_T_outputsBehind_25 : decode mi_T_outputsBehind.2.1 25 = .ok (.invokevirtual 101, 3) := by decide +kernel
theorem d_T_outputsBehind_28 : decode mi_T_outputsBehind.2.1 28 = .ok (.istore 4, 2) := by decide +kernel
theorem d_T_outputsBehind_30 : decode mi_T_outputsBehind.2.1 30 = .ok (.iinc 5 (1), 3) := by decide +kernel
theorem d_T_outputsBehind_33 : decode mi_T_outputsBehind.2.1 33 = .ok (.goto (-24), 3) := by decide +kernel
theorem d_T_outputsBehind_36 : decode mi_T_outputsBehind.2.1 36 = .ok (.aload_n 0, 1) := by decide +kernel
theorem d_T_outputsBehind_37 : decode mi_T_outputsBehind.2.1 37 = .ok (.iload_n 1, 1) := by decide +kernel
theorem d_T_outputsBehind_38 : decode mi_T_outputsBehind.2.1 38 = .ok (.iload 4, 2) := by decide +kernel
theorem d_T_outputsBehind_40 : decode mi_T_outputsBehind.2.1 40 = .ok (.aload_n 0, 1) := by decide +kernel
theorem d_T_outputsBehind_41 : decode mi_T_outputsBehind.2.1 41 = .ok (.getfield 34, 3) := by decide +kernel
theorem d_T_outputsBehind_44 : decode mi_T_outputsBehind.2.1 44 = .ok (.ishl, 1) := by decide +kernel
theorem d_T_outputsBehind_45 : decode mi_T_outputsBehind.2.1 45 = .ok (.iload_n 3, 1) := by decide +kernel
theorem d_T_outputsBehind_46 : decode mi_T_outputsBehind.2.1 46 = .ok (.ior, 1) := by decide +kernel
theorem d_T_outputsBehind_47 : decode mi_T_outputsBehind.2.1 47 = .ok (.invokevirtual 98, 3) := by decide +kernel
theorem d_T_outputsBehind_50 : decode mi_T_outputsBehind.2.1 50 = .ok (.ireturn, 1) := by decide +kernel
theorem s_T_outputsBehind_1 : kCall TT cl6 X mi_T_outputsBehind 1 3 mi_T_firstState 2 1 6 := k_virtual (index := 122) d_T_outputsBehind_1 cs_T_firstState rfl rfl t_1_171 t_1_173 ts_3
theorem s_T_outputsBehind_19 : kGet TT cl6 X mi_T_outputsBehind 19 6 2 := k_get (index := 34) cK_6 d_T_outputsBehind_19 (by decide) ⟨"Miterhouse$States", Or.inl t_4_146, Or.inl rfl⟩
theorem s_T_outputsBehind_25 : kCall TT cl6 X mi_T_outputsBehind 25 3 mi_T_stateBehind 2 2 6 := k_virtual (index := 101) d_T_outputsBehind_25 cs_T_stateBehind rfl rfl t_1_156 t_1_158 ts_2
theorem s_T_outputsBehind_41 : kGet TT cl6 X mi_T_outputsBehind 41 6 2 := k_get (index := 34) cK_6 d_T_outputsBehind_41 (by decide) ⟨"Miterhouse$States", Or.inl t_4_146, Or.inl rfl⟩
theorem s_T_outputsBehind_47 : kCall TT cl6 X mi_T_outputsBehind 47 3 mi_T_outputsAt 2 3 6 := k_virtual (index := 98) d_T_outputsBehind_47 cs_T_outputsAt rfl rfl t_1_129 t_1_131 ts_1
theorem d_T_search_0 : decode mi_T_search.2.1 0 = .ok (.aload_n 0, 1) := by decide +kernel
theorem d_T_search_1 : decode mi_T_search.2.1 1 = .ok (.getfield 70, 3) := by decide +kernel
theorem d_T_search_4 : decode mi_T_search.2.1 4 = .ok (.aload_n 0, 1) := by decide +kernel
theorem d_T_search_5 : decode mi_T_search.2.1 5 = .ok (.getfield 13, 3) := by decide +kernel
theorem d_T_search_8 : decode mi_T_search.2.1 8 = .ok (.getfield 110, 3) := by decide +kernel
theorem d_T_search_11 : decode mi_T_search.2.1 11 = .ok (.if_icmp .ne (4), 3) := by decide +kernel
theorem d_T_search_14 : decode mi_T_search.2.1 14 = .ok (.return_, 1) := by decide +kernel
theorem d_T_search_15 : decode mi_T_search.2.1 15 = .ok (.aload_n 0, 1) := by decide +kernel
theorem d_T_search_16 : decode mi_T_search.2.1 16 = .ok (.aload_n 0, 1) := by decide +kernel
theorem d_T_search_17 : decode mi_T_search.2.1 17 = .ok (.getfield 13, 3) := by decide +kernel
theorem d_T_search_20 : decode mi_T_search.2.1 20 = .ok (.getfield 110, 3) := by decide +kernel
theorem d_T_search_23 : decode mi_T_search.2.1 23 = .ok (.putfield 70, 3) := by decide +kernel
theorem d_T_search_26 : decode mi_T_search.2.1 26 = .ok (.aload_n 0, 1) := by decide +kernel
theorem d_T_search_27 : decode mi_T_search.2.1 27 = .ok (.invokevirtual 113, 3) := by decide +kernel
theorem d_T_search_30 : decode mi_T_search.2.1 30 = .ok (.aload_n 0, 1) := by decide +kernel
theorem d_T_search_31 : decode mi_T_search.2.1 31 = .ok (.getfield 48, 3) := by decide +kernel
theorem d_T_search_34 : decode mi_T_search.2.1 34 = .ok (.iconst (-1), 1) := by decide +kernel
theorem d_T_search_35 : decode mi_T_search.2.1 35 = .ok (.invokestatic 116, 3) := by decide +kernel
theorem d_T_search_38 : decode mi_T_search.2.1 38 = .ok (.aload_n 0, 1) := by decide +kernel
theorem d_T_search_39 : decode mi_T_search.2.1 39 = .ok (.iconst (0), 1) := by decide +kernel
theorem d_T_search_40 : decode mi_T_search.2.1 40 = .ok (.putfield 73, 3) := by decide +kernel
theorem d_T_search_43 : decode mi_T_search.2.1 43 = .ok (.aload_n 0, 1) := by decide +kernel
theorem d_T_search_44 : decode mi_T_search.2.1 44 = .ok (.iconst (-1), 1) := by decide +kernel
theorem d_T_search_45 : decode mi_T_search.2.1 45 = .ok (.putfield 76, 3) := by decide +kernel
theorem d_T_search_48 : decode mi_T_search.2.1 48 = .ok (.aload_n 0, 1) := by decide +kernel
theorem d_T_search_49 : decode mi_T_search.2.1 49 = .ok (.aload_n 0, 1) := by decide +kernel
theorem d_T_search_50 : decode mi_T_search.2.1 50 = .ok (.invokevirtual 122, 3) := by decide +kernel
theorem d_T_search_53 : decode mi_T_search.2.1 53 = .ok (.aload_n 0, 1) := by decide +kernel
theorem d_T_search_54 : decode mi_T_search.2.1 54 = .ok (.invokevirtual 122, 3) := by decide +kernel
theorem d_T_search_57 : decode mi_T_search.2.1 57 = .ok (.iconst (0), 1) := by decide +kernel
theorem d_T_search_58 : decode mi_T_search.2.1 58 = .ok (.iconst (0), 1) := by decide +kernel
theorem d_T_search_59 : decode mi_T_search.2.1 59 = .ok (.invokevirtual 126, 3) := by decide +kernel
theorem d_T_search_62 : decode mi_T_search.2.1 62 = .ok (.iconst (0), 1) := by decide +kernel
theorem d_T_search_63 : decode mi_T_search.2.1 63 = .ok (.istore_n 1, 1) := by decide +kernel
theorem d_T_search_64 : decode mi_T_search.2.1 64 = .ok (.iload_n 1, 1) := by decide +kernel
theorem d_T_search_65 : decode mi_T_search.2.1 65 = .ok (.aload_n 0, 1) := by decide +kernel
theorem d_T_search_66 : decode mi_T_search.2.1 66 = .ok (.getfield 73, 3) := by decide +kernel
theorem d_T_search_69 : decode mi_T_search.2.1 69 = .ok (.if_icmp .ge (21), 3) := by decide +kernel
theorem d_T_search_72 : decode mi_T_search.2.1 72 = .ok (.aload_n 0, 1) := by decide +kernel
theorem d_T_search_73 : decode mi_T_search.2.1 73 = .ok (.aload_n 0, 1) := by decide +kernel
theorem d_T_search_74 : decode mi_T_search.2.1 74 = .ok (.getfield 45, 3) := by decide +kernel
theorem d_T_search_77 : decode mi_T_search.2.1 77 = .ok (.iload_n 1, 1) := by decide +kernel
theorem d_T_search_78 : decode mi_T_search.2.1 78 = .ok (.invokestatic 104, 3) := by decide +kernel
theorem d_T_search_81 : decode mi_T_search.2.1 81 = .ok (.invokevirtual 130, 3) := by decide +kernel
theorem d_T_search_84 : decode mi_T_search.2.1 84 = .ok (.iinc 1 (1), 3) := by decide +kernel
theorem d_T_search_87 : decode mi_T_search.2.1 87 = .ok (.goto (-23), 3) := by decide +kernel
theorem d_T_search_90 : decode mi_T_search.2.1 90 = .ok (.return_, 1) := by decide +kernel
theorem s_T_search_1 : kGet TT cl6 X mi_T_search 1 6 13 := k_get (index := 70) cK_6 d_T_search_1 (by decide) ⟨"Miterhouse$States", Or.inl t_4_157, Or.inl rfl⟩
theorem s_T_search_5 : kGet TT cl6 X mi_T_search 5 6 1 := k_get (index := 13) cK_6 d_T_search_5 (by decide) ⟨"Miterhouse$States", Or.inl t_4_145, Or.inl rfl⟩
theorem s_T_search_8 : kGet TT cl6 X mi_T_search 8 3 9 := k_get (index := 110) cK_3 d_T_search_8 (by decide) ⟨"Miterhouse$Values", Or.inl t_3_143, Or.inl rfl⟩
theorem s_T_search_17 : kGet TT cl6 X mi_T_search 17 6 1 := k_get (index := 13) cK_6 d_T_search_17 (by decide) ⟨"Miterhouse$States", Or.inl t_4_145, Or.inl rfl⟩
theorem s_T_search_20 : kGet TT cl6 X mi_T_search 20 3 9 := k_get (index := 110) cK_3 d_T_search_20 (by decide) ⟨"Miterhouse$Values", Or.inl t_3_143, Or.inl rfl⟩
theorem s_T_search_23 : kPut TT cl6 X mi_T_search 23 6 13 .int := k_put (index := 70) cK_6 d_T_search_23 (by decide) ⟨"Miterhouse$States", Or.inl t_4_157, Or.inl rfl⟩ rfl
theorem s_T_search_27 : kCall TT cl6 X mi_T_search 27 3 mi_T_fillFollow 2 1 6 := k_virtual (index := 113) d_T_search_27 cs_T_fillFollow rfl rfl t_1_124 t_1_126 ts_0
theorem s_T_search_31 : kGet TT cl6 X mi_T_search 31 6 6 := k_get (index := 48) cK_6 d_T_search_31 (by decide) ⟨"Miterhouse$States", Or.inl t_4_150, Or.inl rfl⟩
theorem s_T_search_35 : kCall TT cl6 X mi_T_search 35 3 mi_J_fill 1 2 0 := k_static (index := 116) d_T_search_35 cs_J_fill t_1_168 t_1_169
theorem s_T_search_40 : kPut TT cl6 X mi_T_search 40 6 14 .int := k_put (index := 73) cK_6 d_T_search_40 (by decide) ⟨"Miterhouse$States", Or.inl t_4_158, Or.inl rfl⟩ rfl
theorem s_T_search_45 : kPut TT cl6 X mi_T_search 45 6 15 .int := k_put (index := 76) cK_6 d_T_search_45 (by decide) ⟨"Miterhouse$States", Or.inl t_4_160, Or.inl rfl⟩ rfl
theorem s_T_search_50 : kCall TT cl6 X mi_T_search 50 3 mi_T_firstState 2 1 6 := k_virtual (index := 122) d_T_search_50 cs_T_firstState rfl rfl t_1_171 t_1_173 ts_3
theorem s_T_search_54 : kCall TT cl6 X mi_T_search 54 3 mi_T_firstState 2 1 6 := k_virtual (index := 122) d_T_search_54 cs_T_firstState rfl rfl t_1_171 t_1_173 ts_3
theorem s_T_search_59 : kCall TT cl6 X mi_T_search 59 3 mi_T_meet 2 5 6 := k_virtual (index := 126) d_T_search_59 cs_T_meet rfl rfl t_1_179 t_1_181 ts_4
theorem s_T_search_66 : kGet TT cl6 X mi_T_search 66 6 14 := k_get (index := 73) cK_6 d_T_search_66 (by decide) ⟨"Miterhouse$States", Or.inl t_4_158, Or.inl rfl⟩
theorem s_T_search_74 : kGet TT cl6 X mi_T_search 74 6 5 := k_get (index := 45) cK_6 d_T_search_74 (by decide) ⟨"Miterhouse$States", Or.inl t_4_149, Or.inl rfl⟩
theorem s_T_search_78 : kCall TT cl6 X mi_T_search 78 3 mi_M_numberAt 4 2 0 := k_staticN (index := 104) d_T_search_78 cs_M_numberAt rfl t_1_186 t_1_138
theorem s_T_search_81 : kCall TT cl6 X mi_T_search 81 3 mi_T_expand 2 2 6 := k_virtual (index := 130) d_T_search_81 cs_T_expand rfl rfl t_1_187 t_1_189 ts_5
theorem d_T_stateBehind_0 : decode mi_T_stateBehind.2.1 0 = .ok (.iconst (0), 1) := by decide +kernel
theorem d_T_stateBehind_1 : decode mi_T_stateBehind.2.1 1 = .ok (.istore_n 2, 1) := by decide +kernel
theorem d_T_stateBehind_2 : decode mi_T_stateBehind.2.1 2 = .ok (.aload_n 0, 1) := by decide +kernel
theorem d_T_stateBehind_3 : decode mi_T_stateBehind.2.1 3 = .ok (.getfield 34, 3) := by decide +kernel
theorem d_T_stateBehind_6 : decode mi_T_stateBehind.2.1 6 = .ok (.istore_n 3, 1) := by decide +kernel
theorem d_T_stateBehind_7 : decode mi_T_stateBehind.2.1 7 = .ok (.iload_n 3, 1) := by decide +kernel
theorem d_T_stateBehind_8 : decode mi_T_stateBehind.2.1 8 = .ok (.aload_n 0, 1) := by decide +kernel
theorem d_T_stateBehind_9 : decode mi_T_stateBehind.2.1 9 = .ok (.getfield 13, 3) := by decide +kernel
theorem d_T_stateBehind_12 : decode mi_T_stateBehind.2.1 12 = .ok (.getfield 23, 3) := by decide +kernel
theorem d_T_stateBehind_15 : decode mi_T_stateBehind.2.1 15 = .ok (.if_icmp .ge (46), 3) := by decide +kernel
theorem d_T_stateBehind_18 : decode mi_T_stateBehind.2.1 18 = .ok (.aload_n 0, 1) := by decide +kernel
theorem d_T_stateBehind_19 : decode mi_T_stateBehind.2.1 19 = .ok (.getfield 7, 3) := by decide +kernel
theorem d_T_stateBehind_22 : decode mi_T_stateBehind.2.1 22 = .ok (.aload_n 0, 1) := by decide +kernel
theorem d_T_stateBehind_23 : decode mi_T_stateBehind.2.1 23 = .ok (.getfield 7, 3) := by decide +kernel
theorem d_T_stateBehind_26 : decode mi_T_stateBehind.2.1 26 = .ok (.iload_n 3, 1) := by decide +kernel
theorem d_T_stateBehind_27 : decode mi_T_stateBehind.2.1 27 = .ok (.invokevirtual 79, 3) := by decide +kernel
theorem d_T_stateBehind_30 : decode mi_T_stateBehind.2.1 30 = .ok (.invokevirtual 86, 3) := by decide +kernel
theorem d_T_stateBehind_33 : decode mi_T_stateBehind.2.1 33 = .ok (.istore 4, 2) := by decide +kernel
theorem d_T_stateBehind_35 : decode mi_T_stateBehind.2.1 35 = .ok (.iload_n 2, 1) := by decide +kernel
theorem d_T_stateBehind_36 : decode mi_T_stateBehind.2.1 36 = .ok (.aload_n 0, 1) := by decide +kernel
theorem d_T_stateBehind_37 : decode mi_T_stateBehind.2.1 37 = .ok (.getfield 13, 3) := by decide +kernel
theorem d_T_stateBehind_40 : decode mi_T_stateBehind.2.1 40 = .ok (.iload 4, 2) := by decide +kernel
theorem d_T_stateBehind_42 : decode mi_T_stateBehind.2.1 42 = .ok (.iload_n 1, 1) := by decide +kernel
theorem d_T_stateBehind_43 : decode mi_T_stateBehind.2.1 43 = .ok (.invokevirtual 89, 3) := by decide +kernel
theorem d_T_stateBehind_46 : decode mi_T_stateBehind.2.1 46 = .ok (.iload_n 3, 1) := by decide +kernel
theorem d_T_stateBehind_47 : decode mi_T_stateBehind.2.1 47 = .ok (.aload_n 0, 1) := by decide +kernel
theorem d_T_stateBehind_48 : decode mi_T_stateBehind.2.1 48 = .ok (.getfield 34, 3) := by decide +kernel
theorem d_T_stateBehind_51 : decode mi_T_stateBehind.2.1 51 = .ok (.isub, 1) := by decide +kernel
theorem d_T_stateBehind_52 : decode mi_T_stateBehind.2.1 52 = .ok (.ishl, 1) := by decide +kernel
theorem d_T_stateBehind_53 : decode mi_T_stateBehind.2.1 53 = .ok (.ior, 1) := by decide +kernel
theorem d_T_stateBehind_54 : decode mi_T_stateBehind.2.1 54 = .ok (.istore_n 2, 1) := by decide +kernel
theorem d_T_stateBehind_55 : decode mi_T_stateBehind.2.1 55 = .ok (.iinc 3 (1), 3) := by decide +kernel
theorem d_T_stateBehind_58 : decode mi_T_stateBehind.2.1 58 = .ok (.goto (-51), 3) := by decide +kernel
theorem d_T_stateBehind_61 : decode mi_T_stateBehind.2.1 61 = .ok (.iload_n 2, 1) := by decide +kernel
theorem d_T_stateBehind_62 : decode mi_T_stateBehind.2.1 62 = .ok (.ireturn, 1) := by decide +kernel
theorem s_T_stateBehind_3 : kGet TT cl6 X mi_T_stateBehind 3 6 2 := k_get (index := 34) cK_6 d_T_stateBehind_3 (by decide) ⟨"Miterhouse$States", Or.inl t_4_146, Or.inl rfl⟩
theorem s_T_stateBehind_9 : kGet TT cl6 X mi_T_stateBehind 9 6 1 := k_get (index := 13) cK_6 d_T_stateBehind_9 (by decide) ⟨"Miterhouse$States", Or.inl t_4_145, Or.inl rfl⟩
theorem s_T_stateBehind_12 : kGet TT cl6 X mi_T_stateBehind 12 3 1 := k_get (index := 23) cK_3 d_T_stateBehind_12 (by decide) ⟨"Miterhouse$Values", Or.inl t_3_128, Or.inl rfl⟩
theorem s_T_stateBehind_19 : kGet TT cl6 X mi_T_stateBehind 19 6 0 := k_get (index := 7) cK_6 d_T_stateBehind_19 (by decide) ⟨"Miterhouse$States", Or.inl t_4_144, Or.inl rfl⟩
theorem s_T_stateBehind_23 : kGet TT cl6 X mi_T_stateBehind 23 6 0 := k_get (index := 7) cK_6 d_T_stateBehind_23 (by decide) ⟨"Miterhouse$States", Or.inl t_4_144, Or.inl rfl⟩
theorem s_T_stateBehind_27 : kCall TT cl6 X mi_T_stateBehind 27 3 mi_N_sourceLine 2 2 1 := k_virtual (index := 79) d_T_stateBehind_27 cs_N_sourceLine rfl rfl t_1_160 t_1_161 t_1_162
theorem s_T_stateBehind_30 : kCall TT cl6 X mi_T_stateBehind 30 3 mi_N_dataOf 2 2 1 := k_virtual (index := 86) d_T_stateBehind_30 cs_N_dataOf rfl rfl t_1_164 t_1_165 t_1_166
theorem s_T_stateBehind_37 : kGet TT cl6 X mi_T_stateBehind 37 6 1 := k_get (index := 13) cK_6 d_T_stateBehind_37 (by decide) ⟨"Miterhouse$States", Or.inl t_4_145, Or.inl rfl⟩
theorem s_T_stateBehind_43 : kCall TT cl6 X mi_T_stateBehind 43 3 mi_V_bitAtChoice 2 3 3 := k_virtual (index := 89) d_T_stateBehind_43 cs_V_bitAtChoice rfl rfl t_1_144 t_1_145 t_1_146
theorem s_T_stateBehind_48 : kGet TT cl6 X mi_T_stateBehind 48 6 2 := k_get (index := 34) cK_6 d_T_stateBehind_48 (by decide) ⟨"Miterhouse$States", Or.inl t_4_146, Or.inl rfl⟩
theorem d_T_stepAlike_0 : decode mi_T_stepAlike.2.1 0 = .ok (.aload_n 0, 1) := by decide +kernel
theorem d_T_stepAlike_1 : decode mi_T_stepAlike.2.1 1 = .ok (.getfield 63, 3) := by decide +kernel
theorem d_T_stepAlike_4 : decode mi_T_stepAlike.2.1 4 = .ok (.iconst (0), 1) := by decide +kernel
theorem d_T_stepAlike_5 : decode mi_T_stepAlike.2.1 5 = .ok (.invokestatic 116, 3) := by decide +kernel
theorem d_T_stepAlike_8 : decode mi_T_stepAlike.2.1 8 = .ok (.iconst (0), 1) := by decide +kernel
theorem d_T_stepAlike_9 : decode mi_T_stepAlike.2.1 9 = .ok (.istore_n 1, 1) := by decide +kernel
theorem d_T_stepAlike_10 : decode mi_T_stepAlike.2.1 10 = .ok (.iload_n 1, 1) := by decide +kernel
theorem d_T_stepAlike_11 : decode mi_T_stepAlike.2.1 11 = .ok (.aload_n 0, 1) := by decide +kernel
theorem d_T_stepAlike_12 : decode mi_T_stepAlike.2.1 12 = .ok (.getfield 38, 3) := by decide +kernel
theorem d_T_stepAlike_15 : decode mi_T_stepAlike.2.1 15 = .ok (.if_icmp .ge (74), 3) := by decide +kernel
theorem d_T_stepAlike_18 : decode mi_T_stepAlike.2.1 18 = .ok (.aload_n 0, 1) := by decide +kernel
theorem d_T_stepAlike_19 : decode mi_T_stepAlike.2.1 19 = .ok (.getfield 60, 3) := by decide +kernel
theorem d_T_stepAlike_22 : decode mi_T_stepAlike.2.1 22 = .ok (.iload_n 1, 1) := by decide +kernel
theorem d_T_stepAlike_23 : decode mi_T_stepAlike.2.1 23 = .ok (.invokestatic 104, 3) := by decide +kernel
theorem d_T_stepAlike_26 : decode mi_T_stepAlike.2.1 26 = .ok (.iconst (1), 1) := by decide +kernel
theorem d_T_stepAlike_27 : decode mi_T_stepAlike.2.1 27 = .ok (.if_icmp .ne (56), 3) := by decide +kernel
theorem d_T_stepAlike_30 : decode mi_T_stepAlike.2.1 30 = .ok (.iconst (0), 1) := by decide +kernel
theorem d_T_stepAlike_31 : decode mi_T_stepAlike.2.1 31 = .ok (.istore_n 2, 1) := by decide +kernel
theorem d_T_stepAlike_32 : decode mi_T_stepAlike.2.1 32 = .ok (.iload_n 2, 1) := by decide +kernel
theorem d_T_stepAlike_33 : decode mi_T_stepAlike.2.1 33 = .ok (.iconst (1), 1) := by decide +kernel
theorem d_T_stepAlike_34 : decode mi_T_stepAlike.2.1 34 = .ok (.aload_n 0, 1) := by decide +kernel
theorem d_T_stepAlike_35 : decode mi_T_stepAlike.2.1 35 = .ok (.getfield 34, 3) := by decide +kernel
theorem d_T_stepAlike_38 : decode mi_T_stepAlike.2.1 38 = .ok (.ishl, 1) := by decide +kernel
theorem d_T_stepAlike_39 : decode mi_T_stepAlike.2.1 39 = .ok (.if_icmp .ge (44), 3) := by decide +kernel
theorem d_T_stepAlike_42 : decode mi_T_stepAlike.2.1 42 = .ok (.aload_n 0, 1) := by decide +kernel
theorem d_T_stepAlike_43 : decode mi_T_stepAlike.2.1 43 = .ok (.iload_n 1, 1) := by decide +kernel
theorem d_T_stepAlike_44 : decode mi_T_stepAlike.2.1 44 = .ok (.iload_n 2, 1) := by decide +kernel
theorem d_T_stepAlike_45 : decode mi_T_stepAlike.2.1 45 = .ok (.invokevirtual 142, 3) := by decide +kernel
theorem d_T_stepAlike_48 : decode mi_T_stepAlike.2.1 48 = .ok (.istore_n 3, 1) := by decide +kernel
theorem d_T_stepAlike_49 : decode mi_T_stepAlike.2.1 49 = .ok (.aload_n 0, 1) := by decide +kernel
theorem d_T_stepAlike_50 : decode mi_T_stepAlike.2.1 50 = .ok (.getfield 13, 3) := by decide +kernel
theorem d_T_stepAlike_53 : decode mi_T_stepAlike.2.1 53 = .ok (.iload_n 2, 1) := by decide +kernel
theorem d_T_stepAlike_54 : decode mi_T_stepAlike.2.1 54 = .ok (.invokevirtual 138, 3) := by decide +kernel
theorem d_T_stepAlike_57 : decode mi_T_stepAlike.2.1 57 = .ok (.ifCond .eq (20), 3) := by decide +kernel
theorem d_T_stepAlike_60 : decode mi_T_stepAlike.2.1 60 = .ok (.iload_n 3, 1) := by decide +kernel
theorem d_T_stepAlike_61 : decode mi_T_stepAlike.2.1 61 = .ok (.sipush (256), 3) := by decide +kernel
theorem d_T_stepAlike_64 : decode mi_T_stepAlike.2.1 64 = .ok (.iand, 1) := by decide +kernel
theorem d_T_stepAlike_65 : decode mi_T_stepAlike.2.1 65 = .ok (.ifCond .ne (12), 3) := by decide +kernel
theorem d_T_stepAlike_68 : decode mi_T_stepAlike.2.1 68 = .ok (.aload_n 0, 1) := by decide +kernel
theorem d_T_stepAlike_69 : decode mi_T_stepAlike.2.1 69 = .ok (.getfield 63, 3) := by decide +kernel
theorem d_T_stepAlike_72 : decode mi_T_stepAlike.2.1 72 = .ok (.iload_n 3, 1) := by decide +kernel
theorem d_T_stepAlike_73 : decode mi_T_stepAlike.2.1 73 = .ok (.iconst (1), 1) := by decide +kernel
theorem d_T_stepAlike_74 : decode mi_T_stepAlike.2.1 74 = .ok (.invokestatic 134, 3) := by decide +kernel
theorem d_T_stepAlike_77 : decode mi_T_stepAlike.2.1 77 = .ok (.iinc 2 (1), 3) := by decide +kernel
theorem d_T_stepAlike_80 : decode mi_T_stepAlike.2.1 80 = .ok (.goto (-48), 3) := by decide +kernel
theorem d_T_stepAlike_83 : decode mi_T_stepAlike.2.1 83 = .ok (.iinc 1 (1), 3) := by decide +kernel
theorem d_T_stepAlike_86 : decode mi_T_stepAlike.2.1 86 = .ok (.goto (-76), 3) := by decide +kernel
theorem d_T_stepAlike_89 : decode mi_T_stepAlike.2.1 89 = .ok (.aload_n 0, 1) := by decide +kernel
theorem d_T_stepAlike_90 : decode mi_T_stepAlike.2.1 90 = .ok (.getfield 63, 3) := by decide +kernel
theorem d_T_stepAlike_93 : decode mi_T_stepAlike.2.1 93 = .ok (.iconst (0), 1) := by decide +kernel
theorem d_T_stepAlike_94 : decode mi_T_stepAlike.2.1 94 = .ok (.aload_n 0, 1) := by decide +kernel
theorem d_T_stepAlike_95 : decode mi_T_stepAlike.2.1 95 = .ok (.getfield 60, 3) := by decide +kernel
theorem d_T_stepAlike_98 : decode mi_T_stepAlike.2.1 98 = .ok (.iconst (0), 1) := by decide +kernel
theorem d_T_stepAlike_99 : decode mi_T_stepAlike.2.1 99 = .ok (.aload_n 0, 1) := by decide +kernel
theorem d_T_stepAlike_100 : decode mi_T_stepAlike.2.1 100 = .ok (.getfield 38, 3) := by decide +kernel
theorem d_T_stepAlike_103 : decode mi_T_stepAlike.2.1 103 = .ok (.invokestatic 158, 3) := by decide +kernel
theorem d_T_stepAlike_106 : decode mi_T_stepAlike.2.1 106 = .ok (.return_, 1) := by decide +kernel
theorem s_T_stepAlike_1 : kGet TT cl6 X mi_T_stepAlike 1 6 11 := k_get (index := 63) cK_6 d_T_stepAlike_1 (by decide) ⟨"Miterhouse$States", Or.inl t_4_155, Or.inl rfl⟩
theorem s_T_stepAlike_5 : kCall TT cl6 X mi_T_stepAlike 5 3 mi_J_fill 1 2 0 := k_static (index := 116) d_T_stepAlike_5 cs_J_fill t_1_168 t_1_169
theorem s_T_stepAlike_12 : kGet TT cl6 X mi_T_stepAlike 12 6 3 := k_get (index := 38) cK_6 d_T_stepAlike_12 (by decide) ⟨"Miterhouse$States", Or.inl t_4_147, Or.inl rfl⟩
theorem s_T_stepAlike_19 : kGet TT cl6 X mi_T_stepAlike 19 6 10 := k_get (index := 60) cK_6 d_T_stepAlike_19 (by decide) ⟨"Miterhouse$States", Or.inl t_4_154, Or.inl rfl⟩
theorem s_T_stepAlike_23 : kCall TT cl6 X mi_T_stepAlike 23 3 mi_M_numberAt 4 2 0 := k_staticN (index := 104) d_T_stepAlike_23 cs_M_numberAt rfl t_1_186 t_1_138
theorem s_T_stepAlike_35 : kGet TT cl6 X mi_T_stepAlike 35 6 2 := k_get (index := 34) cK_6 d_T_stepAlike_35 (by decide) ⟨"Miterhouse$States", Or.inl t_4_146, Or.inl rfl⟩
theorem s_T_stepAlike_45 : kCall TT cl6 X mi_T_stepAlike 45 3 mi_T_stepFrom 2 3 6 := k_virtual (index := 142) d_T_stepAlike_45 cs_T_stepFrom rfl rfl t_1_195 t_1_197 ts_6
theorem s_T_stepAlike_50 : kGet TT cl6 X mi_T_stepAlike 50 6 1 := k_get (index := 13) cK_6 d_T_stepAlike_50 (by decide) ⟨"Miterhouse$States", Or.inl t_4_145, Or.inl rfl⟩
theorem s_T_stepAlike_54 : kCall TT cl6 X mi_T_stepAlike 54 3 mi_V_areKeptInputs 2 2 3 := k_virtual (index := 138) d_T_stepAlike_54 cs_V_areKeptInputs rfl rfl t_1_191 t_1_192 t_1_193
theorem s_T_stepAlike_69 : kGet TT cl6 X mi_T_stepAlike 69 6 11 := k_get (index := 63) cK_6 d_T_stepAlike_69 (by decide) ⟨"Miterhouse$States", Or.inl t_4_155, Or.inl rfl⟩
theorem s_T_stepAlike_74 : kCall TT cl6 X mi_T_stepAlike 74 3 mi_M_putNumber 4 3 0 := k_staticN (index := 134) d_T_stepAlike_74 cs_M_putNumber rfl t_1_183 t_1_184
theorem s_T_stepAlike_90 : kGet TT cl6 X mi_T_stepAlike 90 6 11 := k_get (index := 63) cK_6 d_T_stepAlike_90 (by decide) ⟨"Miterhouse$States", Or.inl t_4_155, Or.inl rfl⟩
theorem s_T_stepAlike_95 : kGet TT cl6 X mi_T_stepAlike 95 6 10 := k_get (index := 60) cK_6 d_T_stepAlike_95 (by decide) ⟨"Miterhouse$States", Or.inl t_4_154, Or.inl rfl⟩
theorem s_T_stepAlike_100 : kGet TT cl6 X mi_T_stepAlike 100 6 3 := k_get (index := 38) cK_6 d_T_stepAlike_100 (by decide) ⟨"Miterhouse$States", Or.inl t_4_147, Or.inl rfl⟩
theorem d_T_stepFrom_0 : decode mi_T_stepFrom.2.1 0 = .ok (.aload_n 0, 1) := by decide +kernel
theorem d_T_stepFrom_1 : decode mi_T_stepFrom.2.1 1 = .ok (.getfield 41, 3) := by decide +kernel
theorem d_T_stepFrom_4 : decode mi_T_stepFrom.2.1 4 = .ok (.iload_n 1, 1) := by decide +kernel
theorem d_T_stepFrom_5 : decode mi_T_stepFrom.2.1 5 = .ok (.aload_n 0, 1) := by decide +kernel
theorem d_T_stepFrom_6 : decode mi_T_stepFrom.2.1 6 = .ok (.getfield 34, 3) := by decide +kernel
theorem d_T_stepFrom_9 : decode mi_T_stepFrom.2.1 9 = .ok (.ishl, 1) := by decide +kernel
theorem d_T_stepFrom_10 : decode mi_T_stepFrom.2.1 10 = .ok (.iload_n 2, 1) := by decide +kernel
theorem d_T_stepFrom_11 : decode mi_T_stepFrom.2.1 11 = .ok (.ior, 1) := by decide +kernel
theorem d_T_stepFrom_12 : decode mi_T_stepFrom.2.1 12 = .ok (.invokestatic 104, 3) := by decide +kernel
theorem d_T_stepFrom_15 : decode mi_T_stepFrom.2.1 15 = .ok (.ireturn, 1) := by decide +kernel
theorem s_T_stepFrom_1 : kGet TT cl6 X mi_T_stepFrom 1 6 4 := k_get (index := 41) cK_6 d_T_stepFrom_1 (by decide) ⟨"Miterhouse$States", Or.inl t_4_148, Or.inl rfl⟩
theorem s_T_stepFrom_6 : kGet TT cl6 X mi_T_stepFrom 6 6 2 := k_get (index := 34) cK_6 d_T_stepFrom_6 (by decide) ⟨"Miterhouse$States", Or.inl t_4_146, Or.inl rfl⟩
theorem s_T_stepFrom_12 : kCall TT cl6 X mi_T_stepFrom 12 3 mi_M_numberAt 4 2 0 := k_staticN (index := 104) d_T_stepFrom_12 cs_M_numberAt rfl t_1_186 t_1_138
end RW5
