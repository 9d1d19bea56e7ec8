section RW0
variable {X : XT} {L9 : Nat} {xs : Nat → Int32}
theorem d_M_init_0 : decode mi_M_init.2.1 0 = .ok (.aload_n 0, 1) := by decide +kernel
theorem d_M_init_1 : decode mi_M_init.2.1 1 = .ok (.invokespecial 1, 3) := by decide +kernel
theorem d_M_init_4 : decode mi_M_init.2.1 4 = .ok (.aload_n 0, 1) := by decide +kernel
theorem d_M_init_5 : decode mi_M_init.2.1 5 = .ok (.new 7, 3) := by decide +kernel
theorem d_M_init_8 : decode mi_M_init.2.1 8 = .ok (.dup, 1) := by decide +kernel
theorem d_M_init_9 : decode mi_M_init.2.1 9 = .ok (.invokespecial 9, 3) := by decide +kernel
theorem d_M_init_12 : decode mi_M_init.2.1 12 = .ok (.putfield 10, 3) := by decide +kernel
theorem d_M_init_15 : decode mi_M_init.2.1 15 = .ok (.aload_n 0, 1) := by decide +kernel
theorem d_M_init_16 : decode mi_M_init.2.1 16 = .ok (.bipush (32), 2) := by decide +kernel
theorem d_M_init_18 : decode mi_M_init.2.1 18 = .ok (.newarray .int, 2) := by decide +kernel
theorem d_M_init_20 : decode mi_M_init.2.1 20 = .ok (.putfield 16, 3) := by decide +kernel
theorem d_M_init_23 : decode mi_M_init.2.1 23 = .ok (.aload_n 0, 1) := by decide +kernel
theorem d_M_init_24 : decode mi_M_init.2.1 24 = .ok (.aconst_null, 1) := by decide +kernel
theorem d_M_init_25 : decode mi_M_init.2.1 25 = .ok (.putfield 20, 3) := by decide +kernel
theorem d_M_init_28 : decode mi_M_init.2.1 28 = .ok (.return_, 1) := by decide +kernel
theorem s_M_init_1 : kObj TT cl6 X mi_M_init 1 := k_obj (index := 1) d_M_init_1 t_1_35 t_1_36 t_1_37
theorem s_M_init_5 : kNew TT cl6 X mi_M_init 5 1 13 [.null, .null, .null, .null, .null, .null, .null, .null, .null, .null, .null, .int 0, .int 0] := k_new (index := 7) cK_1 d_M_init_5 t_1_38 t_1_39 t_1_2 (by decide +kernel) (by decide)
theorem s_M_init_9 : kCall TT cl6 X mi_M_init 9 3 mi_N_init 3 1 0 := k_init (index := 9) d_M_init_9 cs_N_init rfl rfl rfl t_1_40 t_1_41
theorem s_M_init_12 : kPut TT cl6 X mi_M_init 12 0 0 (.object "Miterhouse$Nets") := k_putF (index := 10) cK_0 d_M_init_12 (by decide) t_1_94 rfl rfl rfl
theorem s_M_init_20 : kPut TT cl6 X mi_M_init 20 0 1 (.array .int) := k_putF (index := 16) cK_0 d_M_init_20 (by decide) t_1_95 rfl rfl rfl
theorem s_M_init_25 : kPut TT cl6 X mi_M_init 25 0 2 (.object "Miterhouse$Closed") := k_put (index := 20) cK_0 d_M_init_25 (by decide) ⟨"Miterhouse", Or.inl t_1_96, Or.inl rfl⟩ rfl
theorem d_M_ands_0 : decode mi_M_ands.2.1 0 = .ok (.aload_n 0, 1) := by decide +kernel
theorem d_M_ands_1 : decode mi_M_ands.2.1 1 = .ok (.invokevirtual 130, 3) := by decide +kernel
theorem d_M_ands_4 : decode mi_M_ands.2.1 4 = .ok (.getfield 166, 3) := by decide +kernel
theorem d_M_ands_7 : decode mi_M_ands.2.1 7 = .ok (.invokevirtual 175, 3) := by decide +kernel
theorem d_M_ands_10 : decode mi_M_ands.2.1 10 = .ok (.ireturn, 1) := by decide +kernel
theorem s_M_ands_1 : kCall TT cl6 X mi_M_ands 1 3 mi_M_mustBeClosed 2 1 0 := k_virtual (index := 130) d_M_ands_1 cs_M_mustBeClosed rfl rfl t_5_88 t_5_90 ts_24
theorem s_M_ands_4 : kGet TT cl6 X mi_M_ands 4 2 2 := k_get (index := 166) cK_2 d_M_ands_4 (by decide) ⟨"Miterhouse$Closed", Or.inl t_4_199, Or.inl rfl⟩
theorem s_M_ands_7 : kCall TT cl6 X mi_M_ands 7 3 mi_A_andCount 2 1 4 := k_virtual (index := 175) d_M_ands_7 cs_A_andCount rfl rfl t_5_145 t_5_146 t_5_147
theorem d_M_cell_0 : decode mi_M_cell.2.1 0 = .ok (.iload_n 1, 1) := by decide +kernel
theorem d_M_cell_1 : decode mi_M_cell.2.1 1 = .ok (.iconst (0), 1) := by decide +kernel
theorem d_M_cell_2 : decode mi_M_cell.2.1 2 = .ok (.iconst (1), 1) := by decide +kernel
theorem d_M_cell_3 : decode mi_M_cell.2.1 3 = .ok (.invokestatic 45, 3) := by decide +kernel
theorem d_M_cell_6 : decode mi_M_cell.2.1 6 = .ok (.iload_n 2, 1) := by decide +kernel
theorem d_M_cell_7 : decode mi_M_cell.2.1 7 = .ok (.iconst (0), 1) := by decide +kernel
theorem d_M_cell_8 : decode mi_M_cell.2.1 8 = .ok (.iconst (1), 1) := by decide +kernel
theorem d_M_cell_9 : decode mi_M_cell.2.1 9 = .ok (.invokestatic 45, 3) := by decide +kernel
theorem d_M_cell_12 : decode mi_M_cell.2.1 12 = .ok (.iload_n 3, 1) := by decide +kernel
theorem d_M_cell_13 : decode mi_M_cell.2.1 13 = .ok (.iconst (0), 1) := by decide +kernel
theorem d_M_cell_14 : decode mi_M_cell.2.1 14 = .ok (.bipush (9), 2) := by decide +kernel
theorem d_M_cell_16 : decode mi_M_cell.2.1 16 = .ok (.invokestatic 45, 3) := by decide +kernel
theorem d_M_cell_19 : decode mi_M_cell.2.1 19 = .ok (.aload_n 0, 1) := by decide +kernel
theorem d_M_cell_20 : decode mi_M_cell.2.1 20 = .ok (.invokevirtual 24, 3) := by decide +kernel
theorem d_M_cell_23 : decode mi_M_cell.2.1 23 = .ok (.aload_n 0, 1) := by decide +kernel
theorem d_M_cell_24 : decode mi_M_cell.2.1 24 = .ok (.getfield 10, 3) := by decide +kernel
theorem d_M_cell_27 : decode mi_M_cell.2.1 27 = .ok (.iload_n 1, 1) := by decide +kernel
theorem d_M_cell_28 : decode mi_M_cell.2.1 28 = .ok (.iload_n 3, 1) := by decide +kernel
theorem d_M_cell_29 : decode mi_M_cell.2.1 29 = .ok (.invokevirtual 49, 3) := by decide +kernel
theorem d_M_cell_32 : decode mi_M_cell.2.1 32 = .ok (.ifCond .lt (13), 3) := by decide +kernel
theorem d_M_cell_35 : decode mi_M_cell.2.1 35 = .ok (.new 53, 3) := by decide +kernel
theorem d_M_cell_38 : decode mi_M_cell.2.1 38 = .ok (.dup, 1) := by decide +kernel
theorem d_M_cell_39 : decode mi_M_cell.2.1 39 = .ok (.ldc 55, 2) := by decide +kernel
theorem d_M_cell_41 : decode mi_M_cell.2.1 41 = .ok (.invokespecial 57, 3) := by decide +kernel
theorem d_M_cell_44 : decode mi_M_cell.2.1 44 = .ok (.athrow, 1) := by decide +kernel
theorem d_M_cell_45 : decode mi_M_cell.2.1 45 = .ok (.aload_n 0, 1) := by decide +kernel
theorem d_M_cell_46 : decode mi_M_cell.2.1 46 = .ok (.getfield 10, 3) := by decide +kernel
theorem d_M_cell_49 : decode mi_M_cell.2.1 49 = .ok (.getfield 27, 3) := by decide +kernel
theorem d_M_cell_52 : decode mi_M_cell.2.1 52 = .ok (.bipush (80), 2) := by decide +kernel
theorem d_M_cell_54 : decode mi_M_cell.2.1 54 = .ok (.if_icmp .ge (15), 3) := by decide +kernel
theorem d_M_cell_57 : decode mi_M_cell.2.1 57 = .ok (.aload_n 0, 1) := by decide +kernel
theorem d_M_cell_58 : decode mi_M_cell.2.1 58 = .ok (.getfield 10, 3) := by decide +kernel
theorem d_M_cell_61 : decode mi_M_cell.2.1 61 = .ok (.iload_n 1, 1) := by decide +kernel
theorem d_M_cell_62 : decode mi_M_cell.2.1 62 = .ok (.invokevirtual 58, 3) := by decide +kernel
theorem d_M_cell_65 : decode mi_M_cell.2.1 65 = .ok (.iconst (4), 1) := by decide +kernel
theorem d_M_cell_66 : decode mi_M_cell.2.1 66 = .ok (.if_icmp .lt (13), 3) := by decide +kernel
theorem d_M_cell_69 : decode mi_M_cell.2.1 69 = .ok (.new 34, 3) := by decide +kernel
theorem d_M_cell_72 : decode mi_M_cell.2.1 72 = .ok (.dup, 1) := by decide +kernel
theorem d_M_cell_73 : decode mi_M_cell.2.1 73 = .ok (.ldc 62, 2) := by decide +kernel
theorem d_M_cell_75 : decode mi_M_cell.2.1 75 = .ok (.invokespecial 38, 3) := by decide +kernel
theorem d_M_cell_78 : decode mi_M_cell.2.1 78 = .ok (.athrow, 1) := by decide +kernel
theorem d_M_cell_79 : decode mi_M_cell.2.1 79 = .ok (.aload_n 0, 1) := by decide +kernel
theorem d_M_cell_80 : decode mi_M_cell.2.1 80 = .ok (.getfield 10, 3) := by decide +kernel
theorem d_M_cell_83 : decode mi_M_cell.2.1 83 = .ok (.iload_n 1, 1) := by decide +kernel
theorem d_M_cell_84 : decode mi_M_cell.2.1 84 = .ok (.iload_n 2, 1) := by decide +kernel
theorem d_M_cell_85 : decode mi_M_cell.2.1 85 = .ok (.iload_n 3, 1) := by decide +kernel
theorem d_M_cell_86 : decode mi_M_cell.2.1 86 = .ok (.invokevirtual 64, 3) := by decide +kernel
theorem d_M_cell_89 : decode mi_M_cell.2.1 89 = .ok (.ireturn, 1) := by decide +kernel
theorem s_M_cell_3 : kCall TT cl6 X mi_M_cell 3 3 mi_M_mustBeWithin 1 3 0 := k_static (index := 45) d_M_cell_3 cs_M_mustBeWithin t_2_76 t_2_77
theorem s_M_cell_9 : kCall TT cl6 X mi_M_cell 9 3 mi_M_mustBeWithin 1 3 0 := k_static (index := 45) d_M_cell_9 cs_M_mustBeWithin t_2_76 t_2_77
theorem s_M_cell_16 : kCall TT cl6 X mi_M_cell 16 3 mi_M_mustBeWithin 1 3 0 := k_static (index := 45) d_M_cell_16 cs_M_mustBeWithin t_2_76 t_2_77
theorem s_M_cell_20 : kCall TT cl6 X mi_M_cell 20 3 mi_M_mustBeOpen 2 1 0 := k_virtual (index := 24) d_M_cell_20 cs_M_mustBeOpen rfl rfl t_2_150 t_2_152 ts_15
theorem s_M_cell_24 : kGet TT cl6 X mi_M_cell 24 0 0 := k_get (index := 10) cK_0 d_M_cell_24 (by decide) ⟨"Miterhouse", Or.inl t_1_94, Or.inl rfl⟩
theorem s_M_cell_29 : kCall TT cl6 X mi_M_cell 29 3 mi_N_cellNamed 2 3 1 := k_virtual (index := 49) d_M_cell_29 cs_N_cellNamed rfl rfl t_2_170 t_2_171 t_2_172
theorem s_M_cell_35 (h : HX X L9 xs) : kThr TT cl6 X mi_M_cell 35 "java/lang/UnsupportedOperationException" 6 82 := k_thr (ik := 53) (is := 55) (ic := 57) (names := exn) (hx_t h) (hx_s h 0 rfl) (by decide +kernel) (by decide +kernel) t_2_154 t_1_6 (thr_in (by decide +kernel)) (by decide +kernel) d_M_cell_35 d_M_cell_38 d_M_cell_39 d_M_cell_41 d_M_cell_44 (by decide)
theorem s_M_cell_46 : kGet TT cl6 X mi_M_cell 46 0 0 := k_get (index := 10) cK_0 d_M_cell_46 (by decide) ⟨"Miterhouse", Or.inl t_1_94, Or.inl rfl⟩
theorem s_M_cell_49 : kGet TT cl6 X mi_M_cell 49 1 11 := k_get (index := 27) cK_1 d_M_cell_49 (by decide) ⟨"Miterhouse$Nets", Or.inl t_1_58, Or.inl rfl⟩
theorem s_M_cell_58 : kGet TT cl6 X mi_M_cell 58 0 0 := k_get (index := 10) cK_0 d_M_cell_58 (by decide) ⟨"Miterhouse", Or.inl t_1_94, Or.inl rfl⟩
theorem s_M_cell_62 : kCall TT cl6 X mi_M_cell 62 3 mi_N_cellsOf 2 2 1 := k_virtual (index := 58) d_M_cell_62 cs_N_cellsOf rfl rfl t_2_191 t_2_192 t_2_193
theorem s_M_cell_69 (h : HX X L9 xs) : kThr TT cl6 X mi_M_cell 69 "java/lang/IllegalStateException" 6 82 := k_thr (ik := 34) (is := 62) (ic := 38) (names := exn) (hx_t h) (hx_s h 1 rfl) (by decide +kernel) (by decide +kernel) t_2_195 t_1_20 (thr_in (by decide +kernel)) (by decide +kernel) d_M_cell_69 d_M_cell_72 d_M_cell_73 d_M_cell_75 d_M_cell_78 (by decide)
theorem s_M_cell_80 : kGet TT cl6 X mi_M_cell 80 0 0 := k_get (index := 10) cK_0 d_M_cell_80 (by decide) ⟨"Miterhouse", Or.inl t_1_94, Or.inl rfl⟩
theorem s_M_cell_86 : kCall TT cl6 X mi_M_cell 86 3 mi_N_addCell 2 4 1 := k_virtual (index := 64) d_M_cell_86 cs_N_addCell rfl rfl t_2_211 t_2_212 t_2_213
theorem d_M_close_0 : decode mi_M_close.2.1 0 = .ok (.aload_n 0, 1) := by decide +kernel
theorem d_M_close_1 : decode mi_M_close.2.1 1 = .ok (.invokevirtual 24, 3) := by decide +kernel
theorem d_M_close_4 : decode mi_M_close.2.1 4 = .ok (.aload_n 0, 1) := by decide +kernel
theorem d_M_close_5 : decode mi_M_close.2.1 5 = .ok (.getfield 10, 3) := by decide +kernel
theorem d_M_close_8 : decode mi_M_close.2.1 8 = .ok (.invokevirtual 110, 3) := by decide +kernel
theorem d_M_close_11 : decode mi_M_close.2.1 11 = .ok (.ifCond .ne (13), 3) := by decide +kernel
theorem d_M_close_14 : decode mi_M_close.2.1 14 = .ok (.new 53, 3) := by decide +kernel
theorem d_M_close_17 : decode mi_M_close.2.1 17 = .ok (.dup, 1) := by decide +kernel
theorem d_M_close_18 : decode mi_M_close.2.1 18 = .ok (.ldc 114, 2) := by decide +kernel
theorem d_M_close_20 : decode mi_M_close.2.1 20 = .ok (.invokespecial 57, 3) := by decide +kernel
theorem d_M_close_23 : decode mi_M_close.2.1 23 = .ok (.athrow, 1) := by decide +kernel
theorem d_M_close_24 : decode mi_M_close.2.1 24 = .ok (.aload_n 0, 1) := by decide +kernel
theorem d_M_close_25 : decode mi_M_close.2.1 25 = .ok (.getfield 10, 3) := by decide +kernel
theorem d_M_close_28 : decode mi_M_close.2.1 28 = .ok (.invokevirtual 116, 3) := by decide +kernel
theorem d_M_close_31 : decode mi_M_close.2.1 31 = .ok (.new 119, 3) := by decide +kernel
theorem d_M_close_34 : decode mi_M_close.2.1 34 = .ok (.dup, 1) := by decide +kernel
theorem d_M_close_35 : decode mi_M_close.2.1 35 = .ok (.aload_n 0, 1) := by decide +kernel
theorem d_M_close_36 : decode mi_M_close.2.1 36 = .ok (.getfield 10, 3) := by decide +kernel
theorem d_M_close_39 : decode mi_M_close.2.1 39 = .ok (.invokespecial 121, 3) := by decide +kernel
theorem d_M_close_42 : decode mi_M_close.2.1 42 = .ok (.astore_n 1, 1) := by decide +kernel
theorem d_M_close_43 : decode mi_M_close.2.1 43 = .ok (.aload_n 1, 1) := by decide +kernel
theorem d_M_close_44 : decode mi_M_close.2.1 44 = .ok (.invokevirtual 124, 3) := by decide +kernel
theorem d_M_close_47 : decode mi_M_close.2.1 47 = .ok (.aload_n 0, 1) := by decide +kernel
theorem d_M_close_48 : decode mi_M_close.2.1 48 = .ok (.aload_n 1, 1) := by decide +kernel
theorem d_M_close_49 : decode mi_M_close.2.1 49 = .ok (.putfield 20, 3) := by decide +kernel
theorem d_M_close_52 : decode mi_M_close.2.1 52 = .ok (.aload_n 0, 1) := by decide +kernel
theorem d_M_close_53 : decode mi_M_close.2.1 53 = .ok (.getfield 10, 3) := by decide +kernel
theorem d_M_close_56 : decode mi_M_close.2.1 56 = .ok (.invokevirtual 127, 3) := by decide +kernel
theorem d_M_close_59 : decode mi_M_close.2.1 59 = .ok (.ireturn, 1) := by decide +kernel
theorem s_M_close_1 : kCall TT cl6 X mi_M_close 1 3 mi_M_mustBeOpen 2 1 0 := k_virtual (index := 24) d_M_close_1 cs_M_mustBeOpen rfl rfl t_2_150 t_2_152 ts_15
theorem s_M_close_5 : kGet TT cl6 X mi_M_close 5 0 0 := k_get (index := 10) cK_0 d_M_close_5 (by decide) ⟨"Miterhouse", Or.inl t_1_94, Or.inl rfl⟩
theorem s_M_close_8 : kCall TT cl6 X mi_M_close 8 3 mi_N_canBeClosed 2 1 1 := k_virtual (index := 110) d_M_close_8 cs_N_canBeClosed rfl rfl t_3_91 t_3_92 t_3_93
theorem s_M_close_14 (h : HX X L9 xs) : kThr TT cl6 X mi_M_close 14 "java/lang/UnsupportedOperationException" 6 82 := k_thr (ik := 53) (is := 114) (ic := 57) (names := exn) (hx_t h) (hx_s h 2 rfl) (by decide +kernel) (by decide +kernel) t_2_154 t_1_6 (thr_in (by decide +kernel)) (by decide +kernel) d_M_close_14 d_M_close_17 d_M_close_18 d_M_close_20 d_M_close_23 (by decide)
theorem s_M_close_25 : kGet TT cl6 X mi_M_close 25 0 0 := k_get (index := 10) cK_0 d_M_close_25 (by decide) ⟨"Miterhouse", Or.inl t_1_94, Or.inl rfl⟩
theorem s_M_close_28 : kCall TT cl6 X mi_M_close 28 3 mi_N_gatherSources 2 1 1 := k_virtual (index := 116) d_M_close_28 cs_N_gatherSources rfl rfl t_3_96 t_3_97 t_3_98
theorem s_M_close_31 : kNew TT cl6 X mi_M_close 31 2 12 [.null, .null, .null, .null, .null, .null, .null, .null, .null, .null, .null, .null] := k_new (index := 119) cK_2 d_M_close_31 t_3_104 t_1_206 t_1_7 (by decide +kernel) (by decide)
theorem s_M_close_36 : kGet TT cl6 X mi_M_close 36 0 0 := k_get (index := 10) cK_0 d_M_close_36 (by decide) ⟨"Miterhouse", Or.inl t_1_94, Or.inl rfl⟩
theorem s_M_close_39 : kCall TT cl6 X mi_M_close 39 3 mi_H_init 3 2 0 := k_init (index := 121) d_M_close_39 cs_H_init rfl rfl rfl t_3_105 t_3_106
theorem s_M_close_44 : kCall TT cl6 X mi_M_close 44 3 mi_H_fill 2 1 2 := k_virtual (index := 124) d_M_close_44 cs_H_fill rfl rfl t_4_236 t_4_237 t_4_238
theorem s_M_close_49 : kPut TT cl6 X mi_M_close 49 0 2 (.object "Miterhouse$Closed") := k_put (index := 20) cK_0 d_M_close_49 (by decide) ⟨"Miterhouse", Or.inl t_1_96, Or.inl rfl⟩ rfl
theorem s_M_close_53 : kGet TT cl6 X mi_M_close 53 0 0 := k_get (index := 10) cK_0 d_M_close_53 (by decide) ⟨"Miterhouse", Or.inl t_1_94, Or.inl rfl⟩
theorem s_M_close_56 : kCall TT cl6 X mi_M_close 56 3 mi_N_sourceCount 2 1 1 := k_virtual (index := 127) d_M_close_56 cs_N_sourceCount rfl rfl t_5_80 t_3_116 t_3_117
theorem d_M_constrain_0 : decode mi_M_constrain.2.1 0 = .ok (.aload_n 0, 1) := by decide +kernel
theorem d_M_constrain_1 : decode mi_M_constrain.2.1 1 = .ok (.iload_n 1, 1) := by decide +kernel
theorem d_M_constrain_2 : decode mi_M_constrain.2.1 2 = .ok (.invokevirtual 77, 3) := by decide +kernel
theorem d_M_constrain_5 : decode mi_M_constrain.2.1 5 = .ok (.aload_n 0, 1) := by decide +kernel
theorem d_M_constrain_6 : decode mi_M_constrain.2.1 6 = .ok (.invokevirtual 130, 3) := by decide +kernel
theorem d_M_constrain_9 : decode mi_M_constrain.2.1 9 = .ok (.getfield 134, 3) := by decide +kernel
theorem d_M_constrain_12 : decode mi_M_constrain.2.1 12 = .ok (.astore_n 2, 1) := by decide +kernel
theorem d_M_constrain_13 : decode mi_M_constrain.2.1 13 = .ok (.aload_n 0, 1) := by decide +kernel
theorem d_M_constrain_14 : decode mi_M_constrain.2.1 14 = .ok (.getfield 10, 3) := by decide +kernel
theorem d_M_constrain_17 : decode mi_M_constrain.2.1 17 = .ok (.iload_n 1, 1) := by decide +kernel
theorem d_M_constrain_18 : decode mi_M_constrain.2.1 18 = .ok (.invokevirtual 138, 3) := by decide +kernel
theorem d_M_constrain_21 : decode mi_M_constrain.2.1 21 = .ok (.ifCond .ne (11), 3) := by decide +kernel
theorem d_M_constrain_24 : decode mi_M_constrain.2.1 24 = .ok (.aload_n 2, 1) := by decide +kernel
theorem d_M_constrain_25 : decode mi_M_constrain.2.1 25 = .ok (.iload_n 1, 1) := by decide +kernel
theorem d_M_constrain_26 : decode mi_M_constrain.2.1 26 = .ok (.invokevirtual 142, 3) := by decide +kernel
theorem d_M_constrain_29 : decode mi_M_constrain.2.1 29 = .ok (.ifCond .ne (13), 3) := by decide +kernel
theorem d_M_constrain_32 : decode mi_M_constrain.2.1 32 = .ok (.new 53, 3) := by decide +kernel
theorem d_M_constrain_35 : decode mi_M_constrain.2.1 35 = .ok (.dup, 1) := by decide +kernel
theorem d_M_constrain_36 : decode mi_M_constrain.2.1 36 = .ok (.ldc 147, 2) := by decide +kernel
theorem d_M_constrain_38 : decode mi_M_constrain.2.1 38 = .ok (.invokespecial 57, 3) := by decide +kernel
theorem d_M_constrain_41 : decode mi_M_constrain.2.1 41 = .ok (.athrow, 1) := by decide +kernel
theorem d_M_constrain_42 : decode mi_M_constrain.2.1 42 = .ok (.aload_n 2, 1) := by decide +kernel
theorem d_M_constrain_43 : decode mi_M_constrain.2.1 43 = .ok (.getfield 149, 3) := by decide +kernel
theorem d_M_constrain_46 : decode mi_M_constrain.2.1 46 = .ok (.iconst (4), 1) := by decide +kernel
theorem d_M_constrain_47 : decode mi_M_constrain.2.1 47 = .ok (.if_icmp .lt (13), 3) := by decide +kernel
theorem d_M_constrain_50 : decode mi_M_constrain.2.1 50 = .ok (.new 34, 3) := by decide +kernel
theorem d_M_constrain_53 : decode mi_M_constrain.2.1 53 = .ok (.dup, 1) := by decide +kernel
theorem d_M_constrain_54 : decode mi_M_constrain.2.1 54 = .ok (.ldc 152, 2) := by decide +kernel
theorem d_M_constrain_56 : decode mi_M_constrain.2.1 56 = .ok (.invokespecial 38, 3) := by decide +kernel
theorem d_M_constrain_59 : decode mi_M_constrain.2.1 59 = .ok (.athrow, 1) := by decide +kernel
theorem d_M_constrain_60 : decode mi_M_constrain.2.1 60 = .ok (.aload_n 2, 1) := by decide +kernel
theorem d_M_constrain_61 : decode mi_M_constrain.2.1 61 = .ok (.iload_n 1, 1) := by decide +kernel
theorem d_M_constrain_62 : decode mi_M_constrain.2.1 62 = .ok (.invokevirtual 154, 3) := by decide +kernel
theorem d_M_constrain_65 : decode mi_M_constrain.2.1 65 = .ok (.aload_n 2, 1) := by decide +kernel
theorem d_M_constrain_66 : decode mi_M_constrain.2.1 66 = .ok (.getfield 157, 3) := by decide +kernel
theorem d_M_constrain_69 : decode mi_M_constrain.2.1 69 = .ok (.ireturn, 1) := by decide +kernel
theorem s_M_constrain_2 : kCall TT cl6 X mi_M_constrain 2 3 mi_M_mustBeLine 2 2 0 := k_virtual (index := 77) d_M_constrain_2 cs_M_mustBeLine rfl rfl t_3_19 t_3_21 ts_17
theorem s_M_constrain_6 : kCall TT cl6 X mi_M_constrain 6 3 mi_M_mustBeClosed 2 1 0 := k_virtual (index := 130) d_M_constrain_6 cs_M_mustBeClosed rfl rfl t_5_88 t_5_90 ts_24
theorem s_M_constrain_9 : kGet TT cl6 X mi_M_constrain 9 2 1 := k_get (index := 134) cK_2 d_M_constrain_9 (by decide) ⟨"Miterhouse$Closed", Or.inl t_4_197, Or.inl rfl⟩
theorem s_M_constrain_14 : kGet TT cl6 X mi_M_constrain 14 0 0 := k_get (index := 10) cK_0 d_M_constrain_14 (by decide) ⟨"Miterhouse", Or.inl t_1_94, Or.inl rfl⟩
theorem s_M_constrain_18 : kCall TT cl6 X mi_M_constrain 18 3 mi_N_dependsOnCell 2 2 1 := k_virtual (index := 138) d_M_constrain_18 cs_N_dependsOnCell rfl rfl t_5_93 t_5_94 t_5_95
theorem s_M_constrain_26 : kCall TT cl6 X mi_M_constrain 26 3 mi_V_keptWith 2 2 3 := k_virtual (index := 142) d_M_constrain_26 cs_V_keptWith rfl rfl t_5_104 t_5_105 t_5_106
theorem s_M_constrain_32 (h : HX X L9 xs) : kThr TT cl6 X mi_M_constrain 32 "java/lang/UnsupportedOperationException" 6 82 := k_thr (ik := 53) (is := 147) (ic := 57) (names := exn) (hx_t h) (hx_s h 3 rfl) (by decide +kernel) (by decide +kernel) t_2_154 t_1_6 (thr_in (by decide +kernel)) (by decide +kernel) d_M_constrain_32 d_M_constrain_35 d_M_constrain_36 d_M_constrain_38 d_M_constrain_41 (by decide)
theorem s_M_constrain_43 : kGet TT cl6 X mi_M_constrain 43 3 9 := k_get (index := 149) cK_3 d_M_constrain_43 (by decide) ⟨"Miterhouse$Values", Or.inl t_3_144, Or.inl rfl⟩
theorem s_M_constrain_50 (h : HX X L9 xs) : kThr TT cl6 X mi_M_constrain 50 "java/lang/IllegalStateException" 6 82 := k_thr (ik := 34) (is := 152) (ic := 38) (names := exn) (hx_t h) (hx_s h 4 rfl) (by decide +kernel) (by decide +kernel) t_2_195 t_1_20 (thr_in (by decide +kernel)) (by decide +kernel) d_M_constrain_50 d_M_constrain_53 d_M_constrain_54 d_M_constrain_56 d_M_constrain_59 (by decide)
theorem s_M_constrain_62 : kCall TT cl6 X mi_M_constrain 62 3 mi_V_keepAlso 2 2 3 := k_virtual (index := 154) d_M_constrain_62 cs_V_keepAlso rfl rfl t_5_112 t_5_113 t_5_114
theorem s_M_constrain_66 : kGet TT cl6 X mi_M_constrain 66 3 10 := k_get (index := 157) cK_3 d_M_constrain_66 (by decide) ⟨"Miterhouse$Values", Or.inl t_3_146, Or.inl rfl⟩
theorem d_M_data_0 : decode mi_M_data.2.1 0 = .ok (.aload_n 0, 1) := by decide +kernel
theorem d_M_data_1 : decode mi_M_data.2.1 1 = .ok (.iload_n 1, 1) := by decide +kernel
theorem d_M_data_2 : decode mi_M_data.2.1 2 = .ok (.invokevirtual 77, 3) := by decide +kernel
theorem d_M_data_5 : decode mi_M_data.2.1 5 = .ok (.aload_n 0, 1) := by decide +kernel
theorem d_M_data_6 : decode mi_M_data.2.1 6 = .ok (.iload_n 2, 1) := by decide +kernel
theorem d_M_data_7 : decode mi_M_data.2.1 7 = .ok (.invokevirtual 77, 3) := by decide +kernel
theorem d_M_data_10 : decode mi_M_data.2.1 10 = .ok (.aload_n 0, 1) := by decide +kernel
theorem d_M_data_11 : decode mi_M_data.2.1 11 = .ok (.invokevirtual 24, 3) := by decide +kernel
theorem d_M_data_14 : decode mi_M_data.2.1 14 = .ok (.aload_n 0, 1) := by decide +kernel
theorem d_M_data_15 : decode mi_M_data.2.1 15 = .ok (.iload_n 1, 1) := by decide +kernel
theorem d_M_data_16 : decode mi_M_data.2.1 16 = .ok (.invokevirtual 93, 3) := by decide +kernel
theorem d_M_data_19 : decode mi_M_data.2.1 19 = .ok (.aload_n 0, 1) := by decide +kernel
theorem d_M_data_20 : decode mi_M_data.2.1 20 = .ok (.getfield 10, 3) := by decide +kernel
theorem d_M_data_23 : decode mi_M_data.2.1 23 = .ok (.aload_n 0, 1) := by decide +kernel
theorem d_M_data_24 : decode mi_M_data.2.1 24 = .ok (.getfield 10, 3) := by decide +kernel
theorem d_M_data_27 : decode mi_M_data.2.1 27 = .ok (.iload_n 1, 1) := by decide +kernel
theorem d_M_data_28 : decode mi_M_data.2.1 28 = .ok (.invokevirtual 96, 3) := by decide +kernel
theorem d_M_data_31 : decode mi_M_data.2.1 31 = .ok (.iload_n 2, 1) := by decide +kernel
theorem d_M_data_32 : decode mi_M_data.2.1 32 = .ok (.invokevirtual 81, 3) := by decide +kernel
theorem d_M_data_35 : decode mi_M_data.2.1 35 = .ok (.ifCond .ne (13), 3) := by decide +kernel
theorem d_M_data_38 : decode mi_M_data.2.1 38 = .ok (.new 53, 3) := by decide +kernel
theorem d_M_data_41 : decode mi_M_data.2.1 41 = .ok (.dup, 1) := by decide +kernel
theorem d_M_data_42 : decode mi_M_data.2.1 42 = .ok (.ldc 85, 2) := by decide +kernel
theorem d_M_data_44 : decode mi_M_data.2.1 44 = .ok (.invokespecial 57, 3) := by decide +kernel
theorem d_M_data_47 : decode mi_M_data.2.1 47 = .ok (.athrow, 1) := by decide +kernel
theorem d_M_data_48 : decode mi_M_data.2.1 48 = .ok (.aload_n 0, 1) := by decide +kernel
theorem d_M_data_49 : decode mi_M_data.2.1 49 = .ok (.getfield 10, 3) := by decide +kernel
theorem d_M_data_52 : decode mi_M_data.2.1 52 = .ok (.iload_n 1, 1) := by decide +kernel
theorem d_M_data_53 : decode mi_M_data.2.1 53 = .ok (.iload_n 2, 1) := by decide +kernel
theorem d_M_data_54 : decode mi_M_data.2.1 54 = .ok (.invokevirtual 99, 3) := by decide +kernel
theorem d_M_data_57 : decode mi_M_data.2.1 57 = .ok (.ireturn, 1) := by decide +kernel
theorem s_M_data_2 : kCall TT cl6 X mi_M_data 2 3 mi_M_mustBeLine 2 2 0 := k_virtual (index := 77) d_M_data_2 cs_M_mustBeLine rfl rfl t_3_19 t_3_21 ts_17
theorem s_M_data_7 : kCall TT cl6 X mi_M_data 7 3 mi_M_mustBeLine 2 2 0 := k_virtual (index := 77) d_M_data_7 cs_M_mustBeLine rfl rfl t_3_19 t_3_21 ts_17
theorem s_M_data_11 : kCall TT cl6 X mi_M_data 11 3 mi_M_mustBeOpen 2 1 0 := k_virtual (index := 24) d_M_data_11 cs_M_mustBeOpen rfl rfl t_2_150 t_2_152 ts_15
theorem s_M_data_16 : kCall TT cl6 X mi_M_data 16 3 mi_M_mustBeCell 2 2 0 := k_virtual (index := 93) d_M_data_16 cs_M_mustBeCell rfl rfl t_3_58 t_3_60 ts_18
theorem s_M_data_20 : kGet TT cl6 X mi_M_data 20 0 0 := k_get (index := 10) cK_0 d_M_data_20 (by decide) ⟨"Miterhouse", Or.inl t_1_94, Or.inl rfl⟩
theorem s_M_data_24 : kGet TT cl6 X mi_M_data 24 0 0 := k_get (index := 10) cK_0 d_M_data_24 (by decide) ⟨"Miterhouse", Or.inl t_1_94, Or.inl rfl⟩
theorem s_M_data_28 : kCall TT cl6 X mi_M_data 28 3 mi_N_ownerOf 2 2 1 := k_virtual (index := 96) d_M_data_28 cs_N_ownerOf rfl rfl t_3_64 t_2_183 t_2_184
theorem s_M_data_32 : kCall TT cl6 X mi_M_data 32 3 mi_N_fits 2 3 1 := k_virtual (index := 81) d_M_data_32 cs_N_fits rfl rfl t_3_40 t_3_41 t_3_42
theorem s_M_data_38 (h : HX X L9 xs) : kThr TT cl6 X mi_M_data 38 "java/lang/UnsupportedOperationException" 6 82 := k_thr (ik := 53) (is := 85) (ic := 57) (names := exn) (hx_t h) (hx_s h 5 rfl) (by decide +kernel) (by decide +kernel) t_2_154 t_1_6 (thr_in (by decide +kernel)) (by decide +kernel) d_M_data_38 d_M_data_41 d_M_data_42 d_M_data_44 d_M_data_47 (by decide)
theorem s_M_data_49 : kGet TT cl6 X mi_M_data 49 0 0 := k_get (index := 10) cK_0 d_M_data_49 (by decide) ⟨"Miterhouse", Or.inl t_1_94, Or.inl rfl⟩
theorem s_M_data_54 : kCall TT cl6 X mi_M_data 54 3 mi_N_changeData 2 3 1 := k_virtual (index := 99) d_M_data_54 cs_N_changeData rfl rfl t_3_65 t_3_66 t_3_67
theorem d_M_difference_0 : decode mi_M_difference.2.1 0 = .ok (.aload_n 0, 1) := by decide +kernel
theorem d_M_difference_1 : decode mi_M_difference.2.1 1 = .ok (.invokevirtual 130, 3) := by decide +kernel
theorem d_M_difference_4 : decode mi_M_difference.2.1 4 = .ok (.getfield 350, 3) := by decide +kernel
theorem d_M_difference_7 : decode mi_M_difference.2.1 7 = .ok (.astore_n 1, 1) := by decide +kernel
theorem d_M_difference_8 : decode mi_M_difference.2.1 8 = .ok (.aload_n 1, 1) := by decide +kernel
theorem d_M_difference_9 : decode mi_M_difference.2.1 9 = .ok (.invokevirtual 354, 3) := by decide +kernel
theorem d_M_difference_12 : decode mi_M_difference.2.1 12 = .ok (.aload_n 1, 1) := by decide +kernel
theorem d_M_difference_13 : decode mi_M_difference.2.1 13 = .ok (.getfield 362, 3) := by decide +kernel
theorem d_M_difference_16 : decode mi_M_difference.2.1 16 = .ok (.ireturn, 1) := by decide +kernel
theorem s_M_difference_1 : kCall TT cl6 X mi_M_difference 1 3 mi_M_mustBeClosed 2 1 0 := k_virtual (index := 130) d_M_difference_1 cs_M_mustBeClosed rfl rfl t_5_88 t_5_90 ts_24
theorem s_M_difference_4 : kGet TT cl6 X mi_M_difference 4 2 10 := k_get (index := 350) cK_2 d_M_difference_4 (by decide) ⟨"Miterhouse$Closed", Or.inl t_4_209, Or.inl rfl⟩
theorem s_M_difference_9 : kCall TT cl6 X mi_M_difference 9 3 mi_T_search 2 1 6 := k_virtual (index := 354) d_M_difference_9 cs_T_search rfl rfl t_5_237 t_1_121 t_1_122
theorem s_M_difference_13 : kGet TT cl6 X mi_M_difference 13 6 15 := k_get (index := 362) cK_6 d_M_difference_13 (by decide) ⟨"Miterhouse$States", Or.inl t_4_161, Or.inl rfl⟩
theorem d_M_gate_0 : decode mi_M_gate.2.1 0 = .ok (.iload_n 1, 1) := by decide +kernel
theorem d_M_gate_1 : decode mi_M_gate.2.1 1 = .ok (.iconst (0), 1) := by decide +kernel
theorem d_M_gate_2 : decode mi_M_gate.2.1 2 = .ok (.iconst (1), 1) := by decide +kernel
theorem d_M_gate_3 : decode mi_M_gate.2.1 3 = .ok (.invokestatic 45, 3) := by decide +kernel
theorem d_M_gate_6 : decode mi_M_gate.2.1 6 = .ok (.iload_n 2, 1) := by decide +kernel
theorem d_M_gate_7 : decode mi_M_gate.2.1 7 = .ok (.bipush (98), 2) := by decide +kernel
theorem d_M_gate_9 : decode mi_M_gate.2.1 9 = .ok (.if_icmp .eq (9), 3) := by decide +kernel
theorem d_M_gate_12 : decode mi_M_gate.2.1 12 = .ok (.iload_n 2, 1) := by decide +kernel
theorem d_M_gate_13 : decode mi_M_gate.2.1 13 = .ok (.bipush (118), 2) := by decide +kernel
theorem d_M_gate_15 : decode mi_M_gate.2.1 15 = .ok (.if_icmp .ne (7), 3) := by decide +kernel
theorem d_M_gate_18 : decode mi_M_gate.2.1 18 = .ok (.iconst (1), 1) := by decide +kernel
theorem d_M_gate_19 : decode mi_M_gate.2.1 19 = .ok (.goto (4), 3) := by decide +kernel
theorem d_M_gate_22 : decode mi_M_gate.2.1 22 = .ok (.iconst (0), 1) := by decide +kernel
theorem d_M_gate_23 : decode mi_M_gate.2.1 23 = .ok (.istore 5, 2) := by decide +kernel
theorem d_M_gate_25 : decode mi_M_gate.2.1 25 = .ok (.iload 5, 2) := by decide +kernel
theorem d_M_gate_27 : decode mi_M_gate.2.1 27 = .ok (.ifCond .ne (20), 3) := by decide +kernel
theorem d_M_gate_30 : decode mi_M_gate.2.1 30 = .ok (.iload_n 2, 1) := by decide +kernel
theorem d_M_gate_31 : decode mi_M_gate.2.1 31 = .ok (.invokestatic 68, 3) := by decide +kernel
theorem d_M_gate_34 : decode mi_M_gate.2.1 34 = .ok (.ifCond .ne (13), 3) := by decide +kernel
theorem d_M_gate_37 : decode mi_M_gate.2.1 37 = .ok (.new 72, 3) := by decide +kernel
theorem d_M_gate_40 : decode mi_M_gate.2.1 40 = .ok (.dup, 1) := by decide +kernel
theorem d_M_gate_41 : decode mi_M_gate.2.1 41 = .ok (.ldc 74, 2) := by decide +kernel
theorem d_M_gate_43 : decode mi_M_gate.2.1 43 = .ok (.invokespecial 76, 3) := by decide +kernel
theorem d_M_gate_46 : decode mi_M_gate.2.1 46 = .ok (.athrow, 1) := by decide +kernel
theorem d_M_gate_47 : decode mi_M_gate.2.1 47 = .ok (.iload 5, 2) := by decide +kernel
theorem d_M_gate_49 : decode mi_M_gate.2.1 49 = .ok (.ifCond .eq (7), 3) := by decide +kernel
theorem d_M_gate_52 : decode mi_M_gate.2.1 52 = .ok (.iload_n 3, 1) := by decide +kernel
theorem d_M_gate_53 : decode mi_M_gate.2.1 53 = .ok (.goto (5), 3) := by decide +kernel
theorem d_M_gate_56 : decode mi_M_gate.2.1 56 = .ok (.iload 4, 2) := by decide +kernel
theorem d_M_gate_58 : decode mi_M_gate.2.1 58 = .ok (.istore 6, 2) := by decide +kernel
theorem d_M_gate_60 : decode mi_M_gate.2.1 60 = .ok (.aload_n 0, 1) := by decide +kernel
theorem d_M_gate_61 : decode mi_M_gate.2.1 61 = .ok (.iload_n 3, 1) := by decide +kernel
theorem d_M_gate_62 : decode mi_M_gate.2.1 62 = .ok (.invokevirtual 77, 3) := by decide +kernel
theorem d_M_gate_65 : decode mi_M_gate.2.1 65 = .ok (.aload_n 0, 1) := by decide +kernel
theorem d_M_gate_66 : decode mi_M_gate.2.1 66 = .ok (.iload 6, 2) := by decide +kernel
theorem d_M_gate_68 : decode mi_M_gate.2.1 68 = .ok (.invokevirtual 77, 3) := by decide +kernel
theorem d_M_gate_71 : decode mi_M_gate.2.1 71 = .ok (.aload_n 0, 1) := by decide +kernel
theorem d_M_gate_72 : decode mi_M_gate.2.1 72 = .ok (.invokevirtual 24, 3) := by decide +kernel
theorem d_M_gate_75 : decode mi_M_gate.2.1 75 = .ok (.aload_n 0, 1) := by decide +kernel
theorem d_M_gate_76 : decode mi_M_gate.2.1 76 = .ok (.getfield 10, 3) := by decide +kernel
theorem d_M_gate_79 : decode mi_M_gate.2.1 79 = .ok (.iload_n 1, 1) := by decide +kernel
theorem d_M_gate_80 : decode mi_M_gate.2.1 80 = .ok (.iload_n 3, 1) := by decide +kernel
theorem d_M_gate_81 : decode mi_M_gate.2.1 81 = .ok (.invokevirtual 81, 3) := by decide +kernel
theorem d_M_gate_84 : decode mi_M_gate.2.1 84 = .ok (.ifCond .eq (16), 3) := by decide +kernel
theorem d_M_gate_87 : decode mi_M_gate.2.1 87 = .ok (.aload_n 0, 1) := by decide +kernel
theorem d_M_gate_88 : decode mi_M_gate.2.1 88 = .ok (.getfield 10, 3) := by decide +kernel
theorem d_M_gate_91 : decode mi_M_gate.2.1 91 = .ok (.iload_n 1, 1) := by decide +kernel
theorem d_M_gate_92 : decode mi_M_gate.2.1 92 = .ok (.iload 6, 2) := by decide +kernel
theorem d_M_gate_94 : decode mi_M_gate.2.1 94 = .ok (.invokevirtual 81, 3) := by decide +kernel
theorem d_M_gate_97 : decode mi_M_gate.2.1 97 = .ok (.ifCond .ne (13), 3) := by decide +kernel
theorem d_M_gate_100 : decode mi_M_gate.2.1 100 = .ok (.new 53, 3) := by decide +kernel
theorem d_M_gate_103 : decode mi_M_gate.2.1 103 = .ok (.dup, 1) := by decide +kernel
theorem d_M_gate_104 : decode mi_M_gate.2.1 104 = .ok (.ldc 85, 2) := by decide +kernel
theorem d_M_gate_106 : decode mi_M_gate.2.1 106 = .ok (.invokespecial 57, 3) := by decide +kernel
theorem d_M_gate_109 : decode mi_M_gate.2.1 109 = .ok (.athrow, 1) := by decide +kernel
theorem d_M_gate_110 : decode mi_M_gate.2.1 110 = .ok (.aload_n 0, 1) := by decide +kernel
theorem d_M_gate_111 : decode mi_M_gate.2.1 111 = .ok (.getfield 10, 3) := by decide +kernel
theorem d_M_gate_114 : decode mi_M_gate.2.1 114 = .ok (.getfield 27, 3) := by decide +kernel
theorem d_M_gate_117 : decode mi_M_gate.2.1 117 = .ok (.bipush (80), 2) := by decide +kernel
theorem d_M_gate_119 : decode mi_M_gate.2.1 119 = .ok (.if_icmp .lt (13), 3) := by decide +kernel
theorem d_M_gate_122 : decode mi_M_gate.2.1 122 = .ok (.new 34, 3) := by decide +kernel
theorem d_M_gate_125 : decode mi_M_gate.2.1 125 = .ok (.dup, 1) := by decide +kernel
theorem d_M_gate_126 : decode mi_M_gate.2.1 126 = .ok (.ldc 87, 2) := by decide +kernel
theorem d_M_gate_128 : decode mi_M_gate.2.1 128 = .ok (.invokespecial 38, 3) := by decide +kernel
theorem d_M_gate_131 : decode mi_M_gate.2.1 131 = .ok (.athrow, 1) := by decide +kernel
theorem d_M_gate_132 : decode mi_M_gate.2.1 132 = .ok (.aload_n 0, 1) := by decide +kernel
theorem d_M_gate_133 : decode mi_M_gate.2.1 133 = .ok (.getfield 10, 3) := by decide +kernel
theorem d_M_gate_136 : decode mi_M_gate.2.1 136 = .ok (.iload_n 1, 1) := by decide +kernel
theorem d_M_gate_137 : decode mi_M_gate.2.1 137 = .ok (.iload_n 2, 1) := by decide +kernel
theorem d_M_gate_138 : decode mi_M_gate.2.1 138 = .ok (.iload_n 3, 1) := by decide +kernel
theorem d_M_gate_139 : decode mi_M_gate.2.1 139 = .ok (.iload 6, 2) := by decide +kernel
theorem d_M_gate_141 : decode mi_M_gate.2.1 141 = .ok (.invokevirtual 89, 3) := by decide +kernel
theorem d_M_gate_144 : decode mi_M_gate.2.1 144 = .ok (.ireturn, 1) := by decide +kernel
theorem s_M_gate_3 : kCall TT cl6 X mi_M_gate 3 3 mi_M_mustBeWithin 1 3 0 := k_static (index := 45) d_M_gate_3 cs_M_mustBeWithin t_2_76 t_2_77
theorem s_M_gate_31 : kCall TT cl6 X mi_M_gate 31 3 mi_M_isPairKind 1 1 0 := k_static (index := 68) d_M_gate_31 cs_M_isPairKind t_3_15 t_3_16
theorem s_M_gate_37 (h : HX X L9 xs) : kThr TT cl6 X mi_M_gate 37 "java/lang/IllegalArgumentException" 6 82 := k_thr (ik := 72) (is := 74) (ic := 76) (names := exn) (hx_t h) (hx_s h 6 rfl) (by decide +kernel) (by decide +kernel) t_2_79 t_1_19 (thr_in (by decide +kernel)) (by decide +kernel) d_M_gate_37 d_M_gate_40 d_M_gate_41 d_M_gate_43 d_M_gate_46 (by decide)
theorem s_M_gate_62 : kCall TT cl6 X mi_M_gate 62 3 mi_M_mustBeLine 2 2 0 := k_virtual (index := 77) d_M_gate_62 cs_M_mustBeLine rfl rfl t_3_19 t_3_21 ts_17
theorem s_M_gate_68 : kCall TT cl6 X mi_M_gate 68 3 mi_M_mustBeLine 2 2 0 := k_virtual (index := 77) d_M_gate_68 cs_M_mustBeLine rfl rfl t_3_19 t_3_21 ts_17
theorem s_M_gate_72 : kCall TT cl6 X mi_M_gate 72 3 mi_M_mustBeOpen 2 1 0 := k_virtual (index := 24) d_M_gate_72 cs_M_mustBeOpen rfl rfl t_2_150 t_2_152 ts_15
theorem s_M_gate_76 : kGet TT cl6 X mi_M_gate 76 0 0 := k_get (index := 10) cK_0 d_M_gate_76 (by decide) ⟨"Miterhouse", Or.inl t_1_94, Or.inl rfl⟩
theorem s_M_gate_81 : kCall TT cl6 X mi_M_gate 81 3 mi_N_fits 2 3 1 := k_virtual (index := 81) d_M_gate_81 cs_N_fits rfl rfl t_3_40 t_3_41 t_3_42
theorem s_M_gate_88 : kGet TT cl6 X mi_M_gate 88 0 0 := k_get (index := 10) cK_0 d_M_gate_88 (by decide) ⟨"Miterhouse", Or.inl t_1_94, Or.inl rfl⟩
theorem s_M_gate_94 : kCall TT cl6 X mi_M_gate 94 3 mi_N_fits 2 3 1 := k_virtual (index := 81) d_M_gate_94 cs_N_fits rfl rfl t_3_40 t_3_41 t_3_42
theorem s_M_gate_100 (h : HX X L9 xs) : kThr TT cl6 X mi_M_gate 100 "java/lang/UnsupportedOperationException" 6 82 := k_thr (ik := 53) (is := 85) (ic := 57) (names := exn) (hx_t h) (hx_s h 5 rfl) (by decide +kernel) (by decide +kernel) t_2_154 t_1_6 (thr_in (by decide +kernel)) (by decide +kernel) d_M_gate_100 d_M_gate_103 d_M_gate_104 d_M_gate_106 d_M_gate_109 (by decide)
theorem s_M_gate_111 : kGet TT cl6 X mi_M_gate 111 0 0 := k_get (index := 10) cK_0 d_M_gate_111 (by decide) ⟨"Miterhouse", Or.inl t_1_94, Or.inl rfl⟩
theorem s_M_gate_114 : kGet TT cl6 X mi_M_gate 114 1 11 := k_get (index := 27) cK_1 d_M_gate_114 (by decide) ⟨"Miterhouse$Nets", Or.inl t_1_58, Or.inl rfl⟩
theorem s_M_gate_122 (h : HX X L9 xs) : kThr TT cl6 X mi_M_gate 122 "java/lang/IllegalStateException" 6 82 := k_thr (ik := 34) (is := 87) (ic := 38) (names := exn) (hx_t h) (hx_s h 7 rfl) (by decide +kernel) (by decide +kernel) t_2_195 t_1_20 (thr_in (by decide +kernel)) (by decide +kernel) d_M_gate_122 d_M_gate_125 d_M_gate_126 d_M_gate_128 d_M_gate_131 (by decide)
theorem s_M_gate_133 : kGet TT cl6 X mi_M_gate 133 0 0 := k_get (index := 10) cK_0 d_M_gate_133 (by decide) ⟨"Miterhouse", Or.inl t_1_94, Or.inl rfl⟩
theorem s_M_gate_141 : kCall TT cl6 X mi_M_gate 141 3 mi_N_addGate 2 5 1 := k_virtual (index := 89) d_M_gate_141 cs_N_addGate rfl rfl t_3_46 t_3_47 t_3_48
theorem d_M_highHalf_0 : decode mi_M_highHalf.2.1 0 = .ok (.iload_n 0, 1) := by decide +kernel
theorem d_M_highHalf_1 : decode mi_M_highHalf.2.1 1 = .ok (.ifCond .lt (19), 3) := by decide +kernel
theorem d_M_highHalf_4 : decode mi_M_highHalf.2.1 4 = .ok (.iload_n 0, 1) := by decide +kernel
theorem d_M_highHalf_5 : decode mi_M_highHalf.2.1 5 = .ok (.getstatic 422, 3) := by decide +kernel
theorem d_M_highHalf_8 : decode mi_M_highHalf.2.1 8 = .ok (.arraylength, 1) := by decide +kernel
theorem d_M_highHalf_9 : decode mi_M_highHalf.2.1 9 = .ok (.if_icmp .ge (11), 3) := by decide +kernel
theorem d_M_highHalf_12 : decode mi_M_highHalf.2.1 12 = .ok (.getstatic 422, 3) := by decide +kernel
theorem d_M_highHalf_15 : decode mi_M_highHalf.2.1 15 = .ok (.iload_n 0, 1) := by decide +kernel
theorem d_M_highHalf_16 : decode mi_M_highHalf.2.1 16 = .ok (.laload, 1) := by decide +kernel
theorem d_M_highHalf_17 : decode mi_M_highHalf.2.1 17 = .ok (.goto (4), 3) := by decide +kernel
theorem d_M_highHalf_20 : decode mi_M_highHalf.2.1 20 = .ok (.lconst 0, 1) := by decide +kernel
theorem d_M_highHalf_21 : decode mi_M_highHalf.2.1 21 = .ok (.lreturn, 1) := by decide +kernel
theorem s_M_highHalf_5 (h : HX X L9 xs) : kPush TT cl6 X mi_M_highHalf 5 3 (.retAddr 2) := k_gets (index := 422) d_M_highHalf_5 (by decide) (hx_z2 h) t_5_47
theorem s_M_highHalf_12 (h : HX X L9 xs) : kPush TT cl6 X mi_M_highHalf 12 3 (.retAddr 2) := k_gets (index := 422) d_M_highHalf_12 (by decide) (hx_z2 h) t_5_47
theorem d_M_input_0 : decode mi_M_input.2.1 0 = .ok (.aload_n 0, 1) := by decide +kernel
theorem d_M_input_1 : decode mi_M_input.2.1 1 = .ok (.invokevirtual 24, 3) := by decide +kernel
theorem d_M_input_4 : decode mi_M_input.2.1 4 = .ok (.aload_n 0, 1) := by decide +kernel
theorem d_M_input_5 : decode mi_M_input.2.1 5 = .ok (.getfield 10, 3) := by decide +kernel
theorem d_M_input_8 : decode mi_M_input.2.1 8 = .ok (.getfield 27, 3) := by decide +kernel
theorem d_M_input_11 : decode mi_M_input.2.1 11 = .ok (.bipush (80), 2) := by decide +kernel
theorem d_M_input_13 : decode mi_M_input.2.1 13 = .ok (.if_icmp .ge (15), 3) := by decide +kernel
theorem d_M_input_16 : decode mi_M_input.2.1 16 = .ok (.aload_n 0, 1) := by decide +kernel
theorem d_M_input_17 : decode mi_M_input.2.1 17 = .ok (.getfield 10, 3) := by decide +kernel
theorem d_M_input_20 : decode mi_M_input.2.1 20 = .ok (.getfield 31, 3) := by decide +kernel
theorem d_M_input_23 : decode mi_M_input.2.1 23 = .ok (.bipush (6), 2) := by decide +kernel
theorem d_M_input_25 : decode mi_M_input.2.1 25 = .ok (.if_icmp .lt (13), 3) := by decide +kernel
theorem d_M_input_28 : decode mi_M_input.2.1 28 = .ok (.new 34, 3) := by decide +kernel
theorem d_M_input_31 : decode mi_M_input.2.1 31 = .ok (.dup, 1) := by decide +kernel
theorem d_M_input_32 : decode mi_M_input.2.1 32 = .ok (.ldc 36, 2) := by decide +kernel
theorem d_M_input_34 : decode mi_M_input.2.1 34 = .ok (.invokespecial 38, 3) := by decide +kernel
theorem d_M_input_37 : decode mi_M_input.2.1 37 = .ok (.athrow, 1) := by decide +kernel
theorem d_M_input_38 : decode mi_M_input.2.1 38 = .ok (.aload_n 0, 1) := by decide +kernel
theorem d_M_input_39 : decode mi_M_input.2.1 39 = .ok (.getfield 10, 3) := by decide +kernel
theorem d_M_input_42 : decode mi_M_input.2.1 42 = .ok (.invokevirtual 41, 3) := by decide +kernel
theorem d_M_input_45 : decode mi_M_input.2.1 45 = .ok (.ireturn, 1) := by decide +kernel
theorem s_M_input_1 : kCall TT cl6 X mi_M_input 1 3 mi_M_mustBeOpen 2 1 0 := k_virtual (index := 24) d_M_input_1 cs_M_mustBeOpen rfl rfl t_2_150 t_2_152 ts_15
theorem s_M_input_5 : kGet TT cl6 X mi_M_input 5 0 0 := k_get (index := 10) cK_0 d_M_input_5 (by decide) ⟨"Miterhouse", Or.inl t_1_94, Or.inl rfl⟩
theorem s_M_input_8 : kGet TT cl6 X mi_M_input 8 1 11 := k_get (index := 27) cK_1 d_M_input_8 (by decide) ⟨"Miterhouse$Nets", Or.inl t_1_58, Or.inl rfl⟩
theorem s_M_input_17 : kGet TT cl6 X mi_M_input 17 0 0 := k_get (index := 10) cK_0 d_M_input_17 (by decide) ⟨"Miterhouse", Or.inl t_1_94, Or.inl rfl⟩
theorem s_M_input_20 : kGet TT cl6 X mi_M_input 20 1 12 := k_get (index := 31) cK_1 d_M_input_20 (by decide) ⟨"Miterhouse$Nets", Or.inl t_1_63, Or.inl rfl⟩
theorem s_M_input_28 (h : HX X L9 xs) : kThr TT cl6 X mi_M_input 28 "java/lang/IllegalStateException" 6 82 := k_thr (ik := 34) (is := 36) (ic := 38) (names := exn) (hx_t h) (hx_s h 8 rfl) (by decide +kernel) (by decide +kernel) t_2_195 t_1_20 (thr_in (by decide +kernel)) (by decide +kernel) d_M_input_28 d_M_input_31 d_M_input_32 d_M_input_34 d_M_input_37 (by decide)
theorem s_M_input_39 : kGet TT cl6 X mi_M_input 39 0 0 := k_get (index := 10) cK_0 d_M_input_39 (by decide) ⟨"Miterhouse", Or.inl t_1_94, Or.inl rfl⟩
theorem s_M_input_42 : kCall TT cl6 X mi_M_input 42 3 mi_N_addInput 2 1 1 := k_virtual (index := 41) d_M_input_42 cs_N_addInput rfl rfl t_6_133 t_6_134 t_6_135
theorem d_M_isInductive_0 : decode mi_M_isInductive.2.1 0 = .ok (.iload_n 1, 1) := by decide +kernel
theorem d_M_isInductive_1 : decode mi_M_isInductive.2.1 1 = .ok (.iconst (0), 1) := by decide +kernel
theorem d_M_isInductive_2 : decode mi_M_isInductive.2.1 2 = .ok (.bipush (20), 2) := by decide +kernel
theorem d_M_isInductive_4 : decode mi_M_isInductive.2.1 4 = .ok (.invokestatic 45, 3) := by decide +kernel
theorem d_M_isInductive_7 : decode mi_M_isInductive.2.1 7 = .ok (.aload_n 0, 1) := by decide +kernel
theorem d_M_isInductive_8 : decode mi_M_isInductive.2.1 8 = .ok (.invokevirtual 130, 3) := by decide +kernel
theorem d_M_isInductive_11 : decode mi_M_isInductive.2.1 11 = .ok (.getfield 350, 3) := by decide +kernel
theorem d_M_isInductive_14 : decode mi_M_isInductive.2.1 14 = .ok (.iload_n 1, 1) := by decide +kernel
theorem d_M_isInductive_15 : decode mi_M_isInductive.2.1 15 = .ok (.invokevirtual 370, 3) := by decide +kernel
theorem d_M_isInductive_18 : decode mi_M_isInductive.2.1 18 = .ok (.ireturn, 1) := by decide +kernel
theorem s_M_isInductive_4 : kCall TT cl6 X mi_M_isInductive 4 3 mi_M_mustBeWithin 1 3 0 := k_static (index := 45) d_M_isInductive_4 cs_M_mustBeWithin t_2_76 t_2_77
theorem s_M_isInductive_8 : kCall TT cl6 X mi_M_isInductive 8 3 mi_M_mustBeClosed 2 1 0 := k_virtual (index := 130) d_M_isInductive_8 cs_M_mustBeClosed rfl rfl t_5_88 t_5_90 ts_24
theorem s_M_isInductive_11 : kGet TT cl6 X mi_M_isInductive 11 2 10 := k_get (index := 350) cK_2 d_M_isInductive_11 (by decide) ⟨"Miterhouse$Closed", Or.inl t_4_209, Or.inl rfl⟩
theorem s_M_isInductive_15 : kCall TT cl6 X mi_M_isInductive 15 3 mi_T_isProvedBy 2 2 6 := k_virtual (index := 370) d_M_isInductive_15 cs_T_isProvedBy rfl rfl t_6_33 t_6_34 t_6_35
theorem d_M_isInvariant_0 : decode mi_M_isInvariant.2.1 0 = .ok (.aload_n 0, 1) := by decide +kernel
theorem d_M_isInvariant_1 : decode mi_M_isInvariant.2.1 1 = .ok (.iload_n 1, 1) := by decide +kernel
theorem d_M_isInvariant_2 : decode mi_M_isInvariant.2.1 2 = .ok (.invokevirtual 77, 3) := by decide +kernel
theorem d_M_isInvariant_5 : decode mi_M_isInvariant.2.1 5 = .ok (.aload_n 0, 1) := by decide +kernel
theorem d_M_isInvariant_6 : decode mi_M_isInvariant.2.1 6 = .ok (.invokevirtual 130, 3) := by decide +kernel
theorem d_M_isInvariant_9 : decode mi_M_isInvariant.2.1 9 = .ok (.getfield 350, 3) := by decide +kernel
theorem d_M_isInvariant_12 : decode mi_M_isInvariant.2.1 12 = .ok (.iload_n 1, 1) := by decide +kernel
theorem d_M_isInvariant_13 : decode mi_M_isInvariant.2.1 13 = .ok (.invokevirtual 373, 3) := by decide +kernel
theorem d_M_isInvariant_16 : decode mi_M_isInvariant.2.1 16 = .ok (.ireturn, 1) := by decide +kernel
theorem s_M_isInvariant_2 : kCall TT cl6 X mi_M_isInvariant 2 3 mi_M_mustBeLine 2 2 0 := k_virtual (index := 77) d_M_isInvariant_2 cs_M_mustBeLine rfl rfl t_3_19 t_3_21 ts_17
theorem s_M_isInvariant_6 : kCall TT cl6 X mi_M_isInvariant 6 3 mi_M_mustBeClosed 2 1 0 := k_virtual (index := 130) d_M_isInvariant_6 cs_M_mustBeClosed rfl rfl t_5_88 t_5_90 ts_24
theorem s_M_isInvariant_9 : kGet TT cl6 X mi_M_isInvariant 9 2 10 := k_get (index := 350) cK_2 d_M_isInvariant_9 (by decide) ⟨"Miterhouse$Closed", Or.inl t_4_209, Or.inl rfl⟩
theorem s_M_isInvariant_13 : kCall TT cl6 X mi_M_isInvariant 13 3 mi_T_isAlwaysOne 2 2 6 := k_virtual (index := 373) d_M_isInvariant_13 cs_T_isAlwaysOne rfl rfl t_6_56 t_6_57 t_6_58
theorem d_M_isPairKind_0 : decode mi_M_isPairKind.2.1 0 = .ok (.iload_n 0, 1) := by decide +kernel
theorem d_M_isPairKind_1 : decode mi_M_isPairKind.2.1 1 = .ok (.bipush (97), 2) := by decide +kernel
theorem d_M_isPairKind_3 : decode mi_M_isPairKind.2.1 3 = .ok (.if_icmp .eq (27), 3) := by decide +kernel
theorem d_M_isPairKind_6 : decode mi_M_isPairKind.2.1 6 = .ok (.iload_n 0, 1) := by decide +kernel
theorem d_M_isPairKind_7 : decode mi_M_isPairKind.2.1 7 = .ok (.bipush (111), 2) := by decide +kernel
theorem d_M_isPairKind_9 : decode mi_M_isPairKind.2.1 9 = .ok (.if_icmp .eq (21), 3) := by decide +kernel
theorem d_M_isPairKind_12 : decode mi_M_isPairKind.2.1 12 = .ok (.iload_n 0, 1) := by decide +kernel
theorem d_M_isPairKind_13 : decode mi_M_isPairKind.2.1 13 = .ok (.bipush (120), 2) := by decide +kernel
theorem d_M_isPairKind_15 : decode mi_M_isPairKind.2.1 15 = .ok (.if_icmp .eq (15), 3) := by decide +kernel
theorem d_M_isPairKind_18 : decode mi_M_isPairKind.2.1 18 = .ok (.iload_n 0, 1) := by decide +kernel
theorem d_M_isPairKind_19 : decode mi_M_isPairKind.2.1 19 = .ok (.bipush (110), 2) := by decide +kernel
theorem d_M_isPairKind_21 : decode mi_M_isPairKind.2.1 21 = .ok (.if_icmp .eq (9), 3) := by decide +kernel
theorem d_M_isPairKind_24 : decode mi_M_isPairKind.2.1 24 = .ok (.iload_n 0, 1) := by decide +kernel
theorem d_M_isPairKind_25 : decode mi_M_isPairKind.2.1 25 = .ok (.bipush (114), 2) := by decide +kernel
theorem d_M_isPairKind_27 : decode mi_M_isPairKind.2.1 27 = .ok (.if_icmp .ne (7), 3) := by decide +kernel
theorem d_M_isPairKind_30 : decode mi_M_isPairKind.2.1 30 = .ok (.iconst (1), 1) := by decide +kernel
theorem d_M_isPairKind_31 : decode mi_M_isPairKind.2.1 31 = .ok (.goto (4), 3) := by decide +kernel
theorem d_M_isPairKind_34 : decode mi_M_isPairKind.2.1 34 = .ok (.iconst (0), 1) := by decide +kernel
theorem d_M_isPairKind_35 : decode mi_M_isPairKind.2.1 35 = .ok (.ireturn, 1) := by decide +kernel
theorem d_M_isSound_0 : decode mi_M_isSound.2.1 0 = .ok (.aload_n 0, 1) := by decide +kernel
theorem d_M_isSound_1 : decode mi_M_isSound.2.1 1 = .ok (.getfield 20, 3) := by decide +kernel
theorem d_M_isSound_4 : decode mi_M_isSound.2.1 4 = .ok (.ifnull (13), 3) := by decide +kernel
theorem d_M_isSound_7 : decode mi_M_isSound.2.1 7 = .ok (.aload_n 0, 1) := by decide +kernel
theorem d_M_isSound_8 : decode mi_M_isSound.2.1 8 = .ok (.getfield 20, 3) := by decide +kernel
theorem d_M_isSound_11 : decode mi_M_isSound.2.1 11 = .ok (.invokevirtual 391, 3) := by decide +kernel
theorem d_M_isSound_14 : decode mi_M_isSound.2.1 14 = .ok (.ifCond .eq (7), 3) := by decide +kernel
theorem d_M_isSound_17 : decode mi_M_isSound.2.1 17 = .ok (.iconst (1), 1) := by decide +kernel
theorem d_M_isSound_18 : decode mi_M_isSound.2.1 18 = .ok (.goto (4), 3) := by decide +kernel
theorem d_M_isSound_21 : decode mi_M_isSound.2.1 21 = .ok (.iconst (0), 1) := by decide +kernel
theorem d_M_isSound_22 : decode mi_M_isSound.2.1 22 = .ok (.ireturn, 1) := by decide +kernel
theorem s_M_isSound_1 : kGet TT cl6 X mi_M_isSound 1 0 2 := k_get (index := 20) cK_0 d_M_isSound_1 (by decide) ⟨"Miterhouse", Or.inl t_1_96, Or.inl rfl⟩
theorem s_M_isSound_8 : kGet TT cl6 X mi_M_isSound 8 0 2 := k_get (index := 20) cK_0 d_M_isSound_8 (by decide) ⟨"Miterhouse", Or.inl t_1_96, Or.inl rfl⟩
theorem s_M_isSound_11 : kCall TT cl6 X mi_M_isSound 11 3 mi_H_holdsTogether 2 1 2 := k_virtual (index := 391) d_M_isSound_11 cs_H_holdsTogether rfl rfl t_1_116 t_1_117 t_1_118
theorem d_M_lines_0 : decode mi_M_lines.2.1 0 = .ok (.aload_n 0, 1) := by decide +kernel
theorem d_M_lines_1 : decode mi_M_lines.2.1 1 = .ok (.getfield 10, 3) := by decide +kernel
theorem d_M_lines_4 : decode mi_M_lines.2.1 4 = .ok (.getfield 27, 3) := by decide +kernel
theorem d_M_lines_7 : decode mi_M_lines.2.1 7 = .ok (.ireturn, 1) := by decide +kernel
theorem s_M_lines_1 : kGet TT cl6 X mi_M_lines 1 0 0 := k_get (index := 10) cK_0 d_M_lines_1 (by decide) ⟨"Miterhouse", Or.inl t_1_94, Or.inl rfl⟩
theorem s_M_lines_4 : kGet TT cl6 X mi_M_lines 4 1 11 := k_get (index := 27) cK_1 d_M_lines_4 (by decide) ⟨"Miterhouse$Nets", Or.inl t_1_58, Or.inl rfl⟩
theorem d_M_literal_0 : decode mi_M_literal.2.1 0 = .ok (.aload_n 0, 1) := by decide +kernel
theorem d_M_literal_1 : decode mi_M_literal.2.1 1 = .ok (.iload_n 1, 1) := by decide +kernel
theorem d_M_literal_2 : decode mi_M_literal.2.1 2 = .ok (.invokevirtual 77, 3) := by decide +kernel
theorem d_M_literal_5 : decode mi_M_literal.2.1 5 = .ok (.aload_n 0, 1) := by decide +kernel
theorem d_M_literal_6 : decode mi_M_literal.2.1 6 = .ok (.invokevirtual 130, 3) := by decide +kernel
theorem d_M_literal_9 : decode mi_M_literal.2.1 9 = .ok (.getfield 166, 3) := by decide +kernel
theorem d_M_literal_12 : decode mi_M_literal.2.1 12 = .ok (.iload_n 1, 1) := by decide +kernel
theorem d_M_literal_13 : decode mi_M_literal.2.1 13 = .ok (.invokevirtual 170, 3) := by decide +kernel
theorem d_M_literal_16 : decode mi_M_literal.2.1 16 = .ok (.ireturn, 1) := by decide +kernel
theorem s_M_literal_2 : kCall TT cl6 X mi_M_literal 2 3 mi_M_mustBeLine 2 2 0 := k_virtual (index := 77) d_M_literal_2 cs_M_mustBeLine rfl rfl t_3_19 t_3_21 ts_17
theorem s_M_literal_6 : kCall TT cl6 X mi_M_literal 6 3 mi_M_mustBeClosed 2 1 0 := k_virtual (index := 130) d_M_literal_6 cs_M_mustBeClosed rfl rfl t_5_88 t_5_90 ts_24
theorem s_M_literal_9 : kGet TT cl6 X mi_M_literal 9 2 2 := k_get (index := 166) cK_2 d_M_literal_9 (by decide) ⟨"Miterhouse$Closed", Or.inl t_4_199, Or.inl rfl⟩
theorem s_M_literal_13 : kCall TT cl6 X mi_M_literal 13 3 mi_A_literalOf 2 2 4 := k_virtual (index := 170) d_M_literal_13 cs_A_literalOf rfl rfl t_5_137 t_1_236 t_1_237
theorem d_M_lowestBit_0 : decode mi_M_lowestBit.2.1 0 = .ok (.lload_n 0, 1) := by decide +kernel
theorem d_M_lowestBit_1 : decode mi_M_lowestBit.2.1 1 = .ok (.lload_n 0, 1) := by decide +kernel
theorem d_M_lowestBit_2 : decode mi_M_lowestBit.2.1 2 = .ok (.lneg, 1) := by decide +kernel
theorem d_M_lowestBit_3 : decode mi_M_lowestBit.2.1 3 = .ok (.land, 1) := by decide +kernel
theorem d_M_lowestBit_4 : decode mi_M_lowestBit.2.1 4 = .ok (.lconst 1, 1) := by decide +kernel
theorem d_M_lowestBit_5 : decode mi_M_lowestBit.2.1 5 = .ok (.lsub, 1) := by decide +kernel
theorem d_M_lowestBit_6 : decode mi_M_lowestBit.2.1 6 = .ok (.invokestatic 426, 3) := by decide +kernel
theorem d_M_lowestBit_9 : decode mi_M_lowestBit.2.1 9 = .ok (.ireturn, 1) := by decide +kernel
theorem s_M_lowestBit_6 : kCall TT cl6 X mi_M_lowestBit 6 3 mi_L_bitCount 1 1 0 := k_static (index := 426) d_M_lowestBit_6 cs_L_bitCount t_2_26 t_2_27
theorem d_M_mustBeCell_0 : decode mi_M_mustBeCell.2.1 0 = .ok (.aload_n 0, 1) := by decide +kernel
theorem d_M_mustBeCell_1 : decode mi_M_mustBeCell.2.1 1 = .ok (.getfield 10, 3) := by decide +kernel
theorem d_M_mustBeCell_4 : decode mi_M_mustBeCell.2.1 4 = .ok (.iload_n 1, 1) := by decide +kernel
theorem d_M_mustBeCell_5 : decode mi_M_mustBeCell.2.1 5 = .ok (.invokevirtual 406, 3) := by decide +kernel
theorem d_M_mustBeCell_8 : decode mi_M_mustBeCell.2.1 8 = .ok (.ifCond .ne (14), 3) := by decide +kernel
theorem d_M_mustBeCell_11 : decode mi_M_mustBeCell.2.1 11 = .ok (.new 53, 3) := by decide +kernel
theorem d_M_mustBeCell_14 : decode mi_M_mustBeCell.2.1 14 = .ok (.dup, 1) := by decide +kernel
theorem d_M_mustBeCell_15 : decode mi_M_mustBeCell.2.1 15 = .ok (.ldc_w 409, 3) := by decide +kernel
theorem d_M_mustBeCell_18 : decode mi_M_mustBeCell.2.1 18 = .ok (.invokespecial 57, 3) := by decide +kernel
theorem d_M_mustBeCell_21 : decode mi_M_mustBeCell.2.1 21 = .ok (.athrow, 1) := by decide +kernel
theorem d_M_mustBeCell_22 : decode mi_M_mustBeCell.2.1 22 = .ok (.return_, 1) := by decide +kernel
theorem s_M_mustBeCell_1 : kGet TT cl6 X mi_M_mustBeCell 1 0 0 := k_get (index := 10) cK_0 d_M_mustBeCell_1 (by decide) ⟨"Miterhouse", Or.inl t_1_94, Or.inl rfl⟩
theorem s_M_mustBeCell_5 : kCall TT cl6 X mi_M_mustBeCell 5 3 mi_N_isCell 2 2 1 := k_virtual (index := 406) d_M_mustBeCell_5 cs_N_isCell rfl rfl t_3_62 t_2_175 t_2_176
theorem s_M_mustBeCell_11 (h : HX X L9 xs) : kThr TT cl6 X mi_M_mustBeCell 11 "java/lang/UnsupportedOperationException" 6 82 := k_thrW (ik := 53) (is := 409) (ic := 57) (names := exn) (hx_t h) (hx_s h 9 rfl) (by decide +kernel) (by decide +kernel) t_2_154 t_1_6 (thr_in (by decide +kernel)) (by decide +kernel) d_M_mustBeCell_11 d_M_mustBeCell_14 d_M_mustBeCell_15 d_M_mustBeCell_18 d_M_mustBeCell_21 (by decide)
theorem d_M_mustBeChoice_0 : decode mi_M_mustBeChoice.2.1 0 = .ok (.iload_n 1, 1) := by decide +kernel
theorem d_M_mustBeChoice_1 : decode mi_M_mustBeChoice.2.1 1 = .ok (.iconst (0), 1) := by decide +kernel
theorem d_M_mustBeChoice_2 : decode mi_M_mustBeChoice.2.1 2 = .ok (.iconst (1), 1) := by decide +kernel
theorem d_M_mustBeChoice_3 : decode mi_M_mustBeChoice.2.1 3 = .ok (.aload_n 0, 1) := by decide +kernel
theorem d_M_mustBeChoice_4 : decode mi_M_mustBeChoice.2.1 4 = .ok (.getfield 10, 3) := by decide +kernel
theorem d_M_mustBeChoice_7 : decode mi_M_mustBeChoice.2.1 7 = .ok (.invokevirtual 127, 3) := by decide +kernel
theorem d_M_mustBeChoice_10 : decode mi_M_mustBeChoice.2.1 10 = .ok (.ishl, 1) := by decide +kernel
theorem d_M_mustBeChoice_11 : decode mi_M_mustBeChoice.2.1 11 = .ok (.iconst (1), 1) := by decide +kernel
theorem d_M_mustBeChoice_12 : decode mi_M_mustBeChoice.2.1 12 = .ok (.isub, 1) := by decide +kernel
theorem d_M_mustBeChoice_13 : decode mi_M_mustBeChoice.2.1 13 = .ok (.invokestatic 45, 3) := by decide +kernel
theorem d_M_mustBeChoice_16 : decode mi_M_mustBeChoice.2.1 16 = .ok (.return_, 1) := by decide +kernel
theorem s_M_mustBeChoice_4 : kGet TT cl6 X mi_M_mustBeChoice 4 0 0 := k_get (index := 10) cK_0 d_M_mustBeChoice_4 (by decide) ⟨"Miterhouse", Or.inl t_1_94, Or.inl rfl⟩
theorem s_M_mustBeChoice_7 : kCall TT cl6 X mi_M_mustBeChoice 7 3 mi_N_sourceCount 2 1 1 := k_virtual (index := 127) d_M_mustBeChoice_7 cs_N_sourceCount rfl rfl t_5_80 t_3_116 t_3_117
theorem s_M_mustBeChoice_13 : kCall TT cl6 X mi_M_mustBeChoice 13 3 mi_M_mustBeWithin 1 3 0 := k_static (index := 45) d_M_mustBeChoice_13 cs_M_mustBeWithin t_2_76 t_2_77
theorem d_M_mustBeClosed_0 : decode mi_M_mustBeClosed.2.1 0 = .ok (.aload_n 0, 1) := by decide +kernel
theorem d_M_mustBeClosed_1 : decode mi_M_mustBeClosed.2.1 1 = .ok (.getfield 20, 3) := by decide +kernel
theorem d_M_mustBeClosed_4 : decode mi_M_mustBeClosed.2.1 4 = .ok (.ifnonnull (14), 3) := by decide +kernel
theorem d_M_mustBeClosed_7 : decode mi_M_mustBeClosed.2.1 7 = .ok (.new 53, 3) := by decide +kernel
theorem d_M_mustBeClosed_10 : decode mi_M_mustBeClosed.2.1 10 = .ok (.dup, 1) := by decide +kernel
theorem d_M_mustBeClosed_11 : decode mi_M_mustBeClosed.2.1 11 = .ok (.ldc_w 396, 3) := by decide +kernel
theorem d_M_mustBeClosed_14 : decode mi_M_mustBeClosed.2.1 14 = .ok (.invokespecial 57, 3) := by decide +kernel
theorem d_M_mustBeClosed_17 : decode mi_M_mustBeClosed.2.1 17 = .ok (.athrow, 1) := by decide +kernel
theorem d_M_mustBeClosed_18 : decode mi_M_mustBeClosed.2.1 18 = .ok (.aload_n 0, 1) := by decide +kernel
theorem d_M_mustBeClosed_19 : decode mi_M_mustBeClosed.2.1 19 = .ok (.getfield 20, 3) := by decide +kernel
theorem d_M_mustBeClosed_22 : decode mi_M_mustBeClosed.2.1 22 = .ok (.areturn, 1) := by decide +kernel
theorem s_M_mustBeClosed_1 : kGet TT cl6 X mi_M_mustBeClosed 1 0 2 := k_get (index := 20) cK_0 d_M_mustBeClosed_1 (by decide) ⟨"Miterhouse", Or.inl t_1_96, Or.inl rfl⟩
theorem s_M_mustBeClosed_7 (h : HX X L9 xs) : kThr TT cl6 X mi_M_mustBeClosed 7 "java/lang/UnsupportedOperationException" 6 82 := k_thrW (ik := 53) (is := 396) (ic := 57) (names := exn) (hx_t h) (hx_s h 10 rfl) (by decide +kernel) (by decide +kernel) t_2_154 t_1_6 (thr_in (by decide +kernel)) (by decide +kernel) d_M_mustBeClosed_7 d_M_mustBeClosed_10 d_M_mustBeClosed_11 d_M_mustBeClosed_14 d_M_mustBeClosed_17 (by decide)
theorem s_M_mustBeClosed_19 : kGet TT cl6 X mi_M_mustBeClosed 19 0 2 := k_get (index := 20) cK_0 d_M_mustBeClosed_19 (by decide) ⟨"Miterhouse", Or.inl t_1_96, Or.inl rfl⟩
theorem d_M_mustBeLine_0 : decode mi_M_mustBeLine.2.1 0 = .ok (.aload_n 0, 1) := by decide +kernel
theorem d_M_mustBeLine_1 : decode mi_M_mustBeLine.2.1 1 = .ok (.getfield 10, 3) := by decide +kernel
theorem d_M_mustBeLine_4 : decode mi_M_mustBeLine.2.1 4 = .ok (.iload_n 1, 1) := by decide +kernel
theorem d_M_mustBeLine_5 : decode mi_M_mustBeLine.2.1 5 = .ok (.invokevirtual 398, 3) := by decide +kernel
theorem d_M_mustBeLine_8 : decode mi_M_mustBeLine.2.1 8 = .ok (.ifCond .ne (14), 3) := by decide +kernel
theorem d_M_mustBeLine_11 : decode mi_M_mustBeLine.2.1 11 = .ok (.new 401, 3) := by decide +kernel
theorem d_M_mustBeLine_14 : decode mi_M_mustBeLine.2.1 14 = .ok (.dup, 1) := by decide +kernel
theorem d_M_mustBeLine_15 : decode mi_M_mustBeLine.2.1 15 = .ok (.ldc_w 403, 3) := by decide +kernel
theorem d_M_mustBeLine_18 : decode mi_M_mustBeLine.2.1 18 = .ok (.invokespecial 405, 3) := by decide +kernel
theorem d_M_mustBeLine_21 : decode mi_M_mustBeLine.2.1 21 = .ok (.athrow, 1) := by decide +kernel
theorem d_M_mustBeLine_22 : decode mi_M_mustBeLine.2.1 22 = .ok (.return_, 1) := by decide +kernel
theorem s_M_mustBeLine_1 : kGet TT cl6 X mi_M_mustBeLine 1 0 0 := k_get (index := 10) cK_0 d_M_mustBeLine_1 (by decide) ⟨"Miterhouse", Or.inl t_1_94, Or.inl rfl⟩
theorem s_M_mustBeLine_5 : kCall TT cl6 X mi_M_mustBeLine 5 3 mi_N_hasLine 2 2 1 := k_virtual (index := 398) d_M_mustBeLine_5 cs_N_hasLine rfl rfl t_3_23 t_3_24 t_3_25
theorem s_M_mustBeLine_11 (h : HX X L9 xs) : kThr TT cl6 X mi_M_mustBeLine 11 "java/lang/IndexOutOfBoundsException" 6 82 := k_thrW (ik := 401) (is := 403) (ic := 405) (names := exn) (hx_t h) (hx_s h 11 rfl) (by decide +kernel) (by decide +kernel) t_3_27 t_1_21 (thr_in (by decide +kernel)) (by decide +kernel) d_M_mustBeLine_11 d_M_mustBeLine_14 d_M_mustBeLine_15 d_M_mustBeLine_18 d_M_mustBeLine_21 (by decide)
theorem d_M_mustBeOpen_0 : decode mi_M_mustBeOpen.2.1 0 = .ok (.aload_n 0, 1) := by decide +kernel
theorem d_M_mustBeOpen_1 : decode mi_M_mustBeOpen.2.1 1 = .ok (.getfield 20, 3) := by decide +kernel
theorem d_M_mustBeOpen_4 : decode mi_M_mustBeOpen.2.1 4 = .ok (.ifnull (14), 3) := by decide +kernel
theorem d_M_mustBeOpen_7 : decode mi_M_mustBeOpen.2.1 7 = .ok (.new 53, 3) := by decide +kernel
theorem d_M_mustBeOpen_10 : decode mi_M_mustBeOpen.2.1 10 = .ok (.dup, 1) := by decide +kernel
theorem d_M_mustBeOpen_11 : decode mi_M_mustBeOpen.2.1 11 = .ok (.ldc_w 394, 3) := by decide +kernel
theorem d_M_mustBeOpen_14 : decode mi_M_mustBeOpen.2.1 14 = .ok (.invokespecial 57, 3) := by decide +kernel
theorem d_M_mustBeOpen_17 : decode mi_M_mustBeOpen.2.1 17 = .ok (.athrow, 1) := by decide +kernel
theorem d_M_mustBeOpen_18 : decode mi_M_mustBeOpen.2.1 18 = .ok (.return_, 1) := by decide +kernel
theorem s_M_mustBeOpen_1 : kGet TT cl6 X mi_M_mustBeOpen 1 0 2 := k_get (index := 20) cK_0 d_M_mustBeOpen_1 (by decide) ⟨"Miterhouse", Or.inl t_1_96, Or.inl rfl⟩
theorem s_M_mustBeOpen_7 (h : HX X L9 xs) : kThr TT cl6 X mi_M_mustBeOpen 7 "java/lang/UnsupportedOperationException" 6 82 := k_thrW (ik := 53) (is := 394) (ic := 57) (names := exn) (hx_t h) (hx_s h 12 rfl) (by decide +kernel) (by decide +kernel) t_2_154 t_1_6 (thr_in (by decide +kernel)) (by decide +kernel) d_M_mustBeOpen_7 d_M_mustBeOpen_10 d_M_mustBeOpen_11 d_M_mustBeOpen_14 d_M_mustBeOpen_17 (by decide)
theorem d_M_mustBeWithin_0 : decode mi_M_mustBeWithin.2.1 0 = .ok (.iload_n 0, 1) := by decide +kernel
theorem d_M_mustBeWithin_1 : decode mi_M_mustBeWithin.2.1 1 = .ok (.iload_n 1, 1) := by decide +kernel
theorem d_M_mustBeWithin_2 : decode mi_M_mustBeWithin.2.1 2 = .ok (.if_icmp .lt (8), 3) := by decide +kernel
theorem d_M_mustBeWithin_5 : decode mi_M_mustBeWithin.2.1 5 = .ok (.iload_n 0, 1) := by decide +kernel
theorem d_M_mustBeWithin_6 : decode mi_M_mustBeWithin.2.1 6 = .ok (.iload_n 2, 1) := by decide +kernel
theorem d_M_mustBeWithin_7 : decode mi_M_mustBeWithin.2.1 7 = .ok (.if_icmp .le (14), 3) := by decide +kernel
theorem d_M_mustBeWithin_10 : decode mi_M_mustBeWithin.2.1 10 = .ok (.new 72, 3) := by decide +kernel
theorem d_M_mustBeWithin_13 : decode mi_M_mustBeWithin.2.1 13 = .ok (.dup, 1) := by decide +kernel
theorem d_M_mustBeWithin_14 : decode mi_M_mustBeWithin.2.1 14 = .ok (.ldc_w 420, 3) := by decide +kernel
theorem d_M_mustBeWithin_17 : decode mi_M_mustBeWithin.2.1 17 = .ok (.invokespecial 76, 3) := by decide +kernel
theorem d_M_mustBeWithin_20 : decode mi_M_mustBeWithin.2.1 20 = .ok (.athrow, 1) := by decide +kernel
theorem d_M_mustBeWithin_21 : decode mi_M_mustBeWithin.2.1 21 = .ok (.return_, 1) := by decide +kernel
theorem s_M_mustBeWithin_10 (h : HX X L9 xs) : kThr TT cl6 X mi_M_mustBeWithin 10 "java/lang/IllegalArgumentException" 6 82 := k_thrW (ik := 72) (is := 420) (ic := 76) (names := exn) (hx_t h) (hx_s h 13 rfl) (by decide +kernel) (by decide +kernel) t_2_79 t_1_19 (thr_in (by decide +kernel)) (by decide +kernel) d_M_mustBeWithin_10 d_M_mustBeWithin_13 d_M_mustBeWithin_14 d_M_mustBeWithin_17 d_M_mustBeWithin_20 (by decide)
theorem d_M_numberAt_0 : decode mi_M_numberAt.2.1 0 = .ok (.iload_n 1, 1) := by decide +kernel
theorem d_M_numberAt_1 : decode mi_M_numberAt.2.1 1 = .ok (.ifCond .lt (15), 3) := by decide +kernel
theorem d_M_numberAt_4 : decode mi_M_numberAt.2.1 4 = .ok (.iload_n 1, 1) := by decide +kernel
theorem d_M_numberAt_5 : decode mi_M_numberAt.2.1 5 = .ok (.aload_n 0, 1) := by decide +kernel
theorem d_M_numberAt_6 : decode mi_M_numberAt.2.1 6 = .ok (.arraylength, 1) := by decide +kernel
theorem d_M_numberAt_7 : decode mi_M_numberAt.2.1 7 = .ok (.if_icmp .ge (9), 3) := by decide +kernel
theorem d_M_numberAt_10 : decode mi_M_numberAt.2.1 10 = .ok (.aload_n 0, 1) := by decide +kernel
theorem d_M_numberAt_11 : decode mi_M_numberAt.2.1 11 = .ok (.iload_n 1, 1) := by decide +kernel
theorem d_M_numberAt_12 : decode mi_M_numberAt.2.1 12 = .ok (.iaload, 1) := by decide +kernel
theorem d_M_numberAt_13 : decode mi_M_numberAt.2.1 13 = .ok (.goto (4), 3) := by decide +kernel
theorem d_M_numberAt_16 : decode mi_M_numberAt.2.1 16 = .ok (.iconst (0), 1) := by decide +kernel
theorem d_M_numberAt_17 : decode mi_M_numberAt.2.1 17 = .ok (.ireturn, 1) := by decide +kernel
theorem d_M_oneOf_0 : decode mi_M_oneOf.2.1 0 = .ok (.iload_n 0, 1) := by decide +kernel
theorem d_M_oneOf_1 : decode mi_M_oneOf.2.1 1 = .ok (.lookupswitch (91) #[((97), (59)), ((110), (64)), ((111), (69)), ((114), (74)), ((118), (89)), ((120), (79))], 59) := by decide +kernel
theorem d_M_oneOf_60 : decode mi_M_oneOf.2.1 60 = .ok (.lload_n 1, 1) := by decide +kernel
theorem d_M_oneOf_61 : decode mi_M_oneOf.2.1 61 = .ok (.lload 5, 2) := by decide +kernel
theorem d_M_oneOf_63 : decode mi_M_oneOf.2.1 63 = .ok (.land, 1) := by decide +kernel
theorem d_M_oneOf_64 : decode mi_M_oneOf.2.1 64 = .ok (.lreturn, 1) := by decide +kernel
theorem d_M_oneOf_65 : decode mi_M_oneOf.2.1 65 = .ok (.lload_n 3, 1) := by decide +kernel
theorem d_M_oneOf_66 : decode mi_M_oneOf.2.1 66 = .ok (.lload 7, 2) := by decide +kernel
theorem d_M_oneOf_68 : decode mi_M_oneOf.2.1 68 = .ok (.lor, 1) := by decide +kernel
theorem d_M_oneOf_69 : decode mi_M_oneOf.2.1 69 = .ok (.lreturn, 1) := by decide +kernel
theorem d_M_oneOf_70 : decode mi_M_oneOf.2.1 70 = .ok (.lload_n 1, 1) := by decide +kernel
theorem d_M_oneOf_71 : decode mi_M_oneOf.2.1 71 = .ok (.lload 5, 2) := by decide +kernel
theorem d_M_oneOf_73 : decode mi_M_oneOf.2.1 73 = .ok (.lor, 1) := by decide +kernel
theorem d_M_oneOf_74 : decode mi_M_oneOf.2.1 74 = .ok (.lreturn, 1) := by decide +kernel
theorem d_M_oneOf_75 : decode mi_M_oneOf.2.1 75 = .ok (.lload_n 3, 1) := by decide +kernel
theorem d_M_oneOf_76 : decode mi_M_oneOf.2.1 76 = .ok (.lload 7, 2) := by decide +kernel
theorem d_M_oneOf_78 : decode mi_M_oneOf.2.1 78 = .ok (.land, 1) := by decide +kernel
theorem d_M_oneOf_79 : decode mi_M_oneOf.2.1 79 = .ok (.lreturn, 1) := by decide +kernel
theorem d_M_oneOf_80 : decode mi_M_oneOf.2.1 80 = .ok (.lload_n 1, 1) := by decide +kernel
theorem d_M_oneOf_81 : decode mi_M_oneOf.2.1 81 = .ok (.lload 7, 2) := by decide +kernel
theorem d_M_oneOf_83 : decode mi_M_oneOf.2.1 83 = .ok (.land, 1) := by decide +kernel
theorem d_M_oneOf_84 : decode mi_M_oneOf.2.1 84 = .ok (.lload_n 3, 1) := by decide +kernel
theorem d_M_oneOf_85 : decode mi_M_oneOf.2.1 85 = .ok (.lload 5, 2) := by decide +kernel
theorem d_M_oneOf_87 : decode mi_M_oneOf.2.1 87 = .ok (.land, 1) := by decide +kernel
theorem d_M_oneOf_88 : decode mi_M_oneOf.2.1 88 = .ok (.lor, 1) := by decide +kernel
theorem d_M_oneOf_89 : decode mi_M_oneOf.2.1 89 = .ok (.lreturn, 1) := by decide +kernel
theorem d_M_oneOf_90 : decode mi_M_oneOf.2.1 90 = .ok (.lload_n 3, 1) := by decide +kernel
theorem d_M_oneOf_91 : decode mi_M_oneOf.2.1 91 = .ok (.lreturn, 1) := by decide +kernel
theorem d_M_oneOf_92 : decode mi_M_oneOf.2.1 92 = .ok (.lload_n 1, 1) := by decide +kernel
theorem d_M_oneOf_93 : decode mi_M_oneOf.2.1 93 = .ok (.lreturn, 1) := by decide +kernel
theorem d_M_output_0 : decode mi_M_output.2.1 0 = .ok (.iload_n 1, 1) := by decide +kernel
theorem d_M_output_1 : decode mi_M_output.2.1 1 = .ok (.iconst (0), 1) := by decide +kernel
theorem d_M_output_2 : decode mi_M_output.2.1 2 = .ok (.iconst (1), 1) := by decide +kernel
theorem d_M_output_3 : decode mi_M_output.2.1 3 = .ok (.invokestatic 45, 3) := by decide +kernel
theorem d_M_output_6 : decode mi_M_output.2.1 6 = .ok (.aload_n 0, 1) := by decide +kernel
theorem d_M_output_7 : decode mi_M_output.2.1 7 = .ok (.iload_n 2, 1) := by decide +kernel
theorem d_M_output_8 : decode mi_M_output.2.1 8 = .ok (.invokevirtual 77, 3) := by decide +kernel
theorem d_M_output_11 : decode mi_M_output.2.1 11 = .ok (.aload_n 0, 1) := by decide +kernel
theorem d_M_output_12 : decode mi_M_output.2.1 12 = .ok (.invokevirtual 24, 3) := by decide +kernel
theorem d_M_output_15 : decode mi_M_output.2.1 15 = .ok (.aload_n 0, 1) := by decide +kernel
theorem d_M_output_16 : decode mi_M_output.2.1 16 = .ok (.getfield 10, 3) := by decide +kernel
theorem d_M_output_19 : decode mi_M_output.2.1 19 = .ok (.iload_n 1, 1) := by decide +kernel
theorem d_M_output_20 : decode mi_M_output.2.1 20 = .ok (.iload_n 2, 1) := by decide +kernel
theorem d_M_output_21 : decode mi_M_output.2.1 21 = .ok (.invokevirtual 81, 3) := by decide +kernel
theorem d_M_output_24 : decode mi_M_output.2.1 24 = .ok (.ifCond .ne (13), 3) := by decide +kernel
theorem d_M_output_27 : decode mi_M_output.2.1 27 = .ok (.new 53, 3) := by decide +kernel
theorem d_M_output_30 : decode mi_M_output.2.1 30 = .ok (.dup, 1) := by decide +kernel
theorem d_M_output_31 : decode mi_M_output.2.1 31 = .ok (.ldc 85, 2) := by decide +kernel
theorem d_M_output_33 : decode mi_M_output.2.1 33 = .ok (.invokespecial 57, 3) := by decide +kernel
theorem d_M_output_36 : decode mi_M_output.2.1 36 = .ok (.athrow, 1) := by decide +kernel
theorem d_M_output_37 : decode mi_M_output.2.1 37 = .ok (.aload_n 0, 1) := by decide +kernel
theorem d_M_output_38 : decode mi_M_output.2.1 38 = .ok (.getfield 10, 3) := by decide +kernel
theorem d_M_output_41 : decode mi_M_output.2.1 41 = .ok (.iload_n 1, 1) := by decide +kernel
theorem d_M_output_42 : decode mi_M_output.2.1 42 = .ok (.invokevirtual 102, 3) := by decide +kernel
theorem d_M_output_45 : decode mi_M_output.2.1 45 = .ok (.iconst (4), 1) := by decide +kernel
theorem d_M_output_46 : decode mi_M_output.2.1 46 = .ok (.if_icmp .lt (13), 3) := by decide +kernel
theorem d_M_output_49 : decode mi_M_output.2.1 49 = .ok (.new 34, 3) := by decide +kernel
theorem d_M_output_52 : decode mi_M_output.2.1 52 = .ok (.dup, 1) := by decide +kernel
theorem d_M_output_53 : decode mi_M_output.2.1 53 = .ok (.ldc 105, 2) := by decide +kernel
theorem d_M_output_55 : decode mi_M_output.2.1 55 = .ok (.invokespecial 38, 3) := by decide +kernel
theorem d_M_output_58 : decode mi_M_output.2.1 58 = .ok (.athrow, 1) := by decide +kernel
theorem d_M_output_59 : decode mi_M_output.2.1 59 = .ok (.aload_n 0, 1) := by decide +kernel
theorem d_M_output_60 : decode mi_M_output.2.1 60 = .ok (.getfield 10, 3) := by decide +kernel
theorem d_M_output_63 : decode mi_M_output.2.1 63 = .ok (.iload_n 1, 1) := by decide +kernel
theorem d_M_output_64 : decode mi_M_output.2.1 64 = .ok (.iload_n 2, 1) := by decide +kernel
theorem d_M_output_65 : decode mi_M_output.2.1 65 = .ok (.invokevirtual 107, 3) := by decide +kernel
theorem d_M_output_68 : decode mi_M_output.2.1 68 = .ok (.ireturn, 1) := by decide +kernel
theorem s_M_output_3 : kCall TT cl6 X mi_M_output 3 3 mi_M_mustBeWithin 1 3 0 := k_static (index := 45) d_M_output_3 cs_M_mustBeWithin t_2_76 t_2_77
theorem s_M_output_8 : kCall TT cl6 X mi_M_output 8 3 mi_M_mustBeLine 2 2 0 := k_virtual (index := 77) d_M_output_8 cs_M_mustBeLine rfl rfl t_3_19 t_3_21 ts_17
theorem s_M_output_12 : kCall TT cl6 X mi_M_output 12 3 mi_M_mustBeOpen 2 1 0 := k_virtual (index := 24) d_M_output_12 cs_M_mustBeOpen rfl rfl t_2_150 t_2_152 ts_15
theorem s_M_output_16 : kGet TT cl6 X mi_M_output 16 0 0 := k_get (index := 10) cK_0 d_M_output_16 (by decide) ⟨"Miterhouse", Or.inl t_1_94, Or.inl rfl⟩
theorem s_M_output_21 : kCall TT cl6 X mi_M_output 21 3 mi_N_fits 2 3 1 := k_virtual (index := 81) d_M_output_21 cs_N_fits rfl rfl t_3_40 t_3_41 t_3_42
theorem s_M_output_27 (h : HX X L9 xs) : kThr TT cl6 X mi_M_output 27 "java/lang/UnsupportedOperationException" 6 82 := k_thr (ik := 53) (is := 85) (ic := 57) (names := exn) (hx_t h) (hx_s h 5 rfl) (by decide +kernel) (by decide +kernel) t_2_154 t_1_6 (thr_in (by decide +kernel)) (by decide +kernel) d_M_output_27 d_M_output_30 d_M_output_31 d_M_output_33 d_M_output_36 (by decide)
theorem s_M_output_38 : kGet TT cl6 X mi_M_output 38 0 0 := k_get (index := 10) cK_0 d_M_output_38 (by decide) ⟨"Miterhouse", Or.inl t_1_94, Or.inl rfl⟩
theorem s_M_output_42 : kCall TT cl6 X mi_M_output 42 3 mi_N_outputsOf 2 2 1 := k_virtual (index := 102) d_M_output_42 cs_N_outputsOf rfl rfl t_3_77 t_1_134 t_1_135
theorem s_M_output_49 (h : HX X L9 xs) : kThr TT cl6 X mi_M_output 49 "java/lang/IllegalStateException" 6 82 := k_thr (ik := 34) (is := 105) (ic := 38) (names := exn) (hx_t h) (hx_s h 14 rfl) (by decide +kernel) (by decide +kernel) t_2_195 t_1_20 (thr_in (by decide +kernel)) (by decide +kernel) d_M_output_49 d_M_output_52 d_M_output_53 d_M_output_55 d_M_output_58 (by decide)
theorem s_M_output_60 : kGet TT cl6 X mi_M_output 60 0 0 := k_get (index := 10) cK_0 d_M_output_60 (by decide) ⟨"Miterhouse", Or.inl t_1_94, Or.inl rfl⟩
theorem s_M_output_65 : kCall TT cl6 X mi_M_output 65 3 mi_N_addOutput 2 3 1 := k_virtual (index := 107) d_M_output_65 cs_N_addOutput rfl rfl t_3_79 t_3_80 t_3_81
theorem d_M_pattern_0 : decode mi_M_pattern.2.1 0 = .ok (.aload_n 0, 1) := by decide +kernel
theorem d_M_pattern_1 : decode mi_M_pattern.2.1 1 = .ok (.iload_n 1, 1) := by decide +kernel
theorem d_M_pattern_2 : decode mi_M_pattern.2.1 2 = .ok (.invokevirtual 160, 3) := by decide +kernel
theorem d_M_pattern_5 : decode mi_M_pattern.2.1 5 = .ok (.aload_n 0, 1) := by decide +kernel
theorem d_M_pattern_6 : decode mi_M_pattern.2.1 6 = .ok (.invokevirtual 130, 3) := by decide +kernel
theorem d_M_pattern_9 : decode mi_M_pattern.2.1 9 = .ok (.astore_n 2, 1) := by decide +kernel
theorem d_M_pattern_10 : decode mi_M_pattern.2.1 10 = .ok (.aload_n 2, 1) := by decide +kernel
theorem d_M_pattern_11 : decode mi_M_pattern.2.1 11 = .ok (.getfield 134, 3) := by decide +kernel
theorem d_M_pattern_14 : decode mi_M_pattern.2.1 14 = .ok (.iload_n 1, 1) := by decide +kernel
theorem d_M_pattern_15 : decode mi_M_pattern.2.1 15 = .ok (.invokevirtual 192, 3) := by decide +kernel
theorem d_M_pattern_18 : decode mi_M_pattern.2.1 18 = .ok (.ifCond .ne (13), 3) := by decide +kernel
theorem d_M_pattern_21 : decode mi_M_pattern.2.1 21 = .ok (.new 53, 3) := by decide +kernel
theorem d_M_pattern_24 : decode mi_M_pattern.2.1 24 = .ok (.dup, 1) := by decide +kernel
theorem d_M_pattern_25 : decode mi_M_pattern.2.1 25 = .ok (.ldc 195, 2) := by decide +kernel
theorem d_M_pattern_27 : decode mi_M_pattern.2.1 27 = .ok (.invokespecial 57, 3) := by decide +kernel
theorem d_M_pattern_30 : decode mi_M_pattern.2.1 30 = .ok (.athrow, 1) := by decide +kernel
theorem d_M_pattern_31 : decode mi_M_pattern.2.1 31 = .ok (.aload_n 2, 1) := by decide +kernel
theorem d_M_pattern_32 : decode mi_M_pattern.2.1 32 = .ok (.getfield 197, 3) := by decide +kernel
theorem d_M_pattern_35 : decode mi_M_pattern.2.1 35 = .ok (.getfield 201, 3) := by decide +kernel
theorem d_M_pattern_38 : decode mi_M_pattern.2.1 38 = .ok (.bipush (64), 2) := by decide +kernel
theorem d_M_pattern_40 : decode mi_M_pattern.2.1 40 = .ok (.if_icmp .lt (13), 3) := by decide +kernel
theorem d_M_pattern_43 : decode mi_M_pattern.2.1 43 = .ok (.new 34, 3) := by decide +kernel
theorem d_M_pattern_46 : decode mi_M_pattern.2.1 46 = .ok (.dup, 1) := by decide +kernel
theorem d_M_pattern_47 : decode mi_M_pattern.2.1 47 = .ok (.ldc 206, 2) := by decide +kernel
theorem d_M_pattern_49 : decode mi_M_pattern.2.1 49 = .ok (.invokespecial 38, 3) := by decide +kernel
theorem d_M_pattern_52 : decode mi_M_pattern.2.1 52 = .ok (.athrow, 1) := by decide +kernel
theorem d_M_pattern_53 : decode mi_M_pattern.2.1 53 = .ok (.aload_n 2, 1) := by decide +kernel
theorem d_M_pattern_54 : decode mi_M_pattern.2.1 54 = .ok (.getfield 197, 3) := by decide +kernel
theorem d_M_pattern_57 : decode mi_M_pattern.2.1 57 = .ok (.iload_n 1, 1) := by decide +kernel
theorem d_M_pattern_58 : decode mi_M_pattern.2.1 58 = .ok (.invokevirtual 208, 3) := by decide +kernel
theorem d_M_pattern_61 : decode mi_M_pattern.2.1 61 = .ok (.ireturn, 1) := by decide +kernel
theorem s_M_pattern_2 : kCall TT cl6 X mi_M_pattern 2 3 mi_M_mustBeChoice 2 2 0 := k_virtual (index := 160) d_M_pattern_2 cs_M_mustBeChoice rfl rfl t_5_125 t_5_127 ts_26
theorem s_M_pattern_6 : kCall TT cl6 X mi_M_pattern 6 3 mi_M_mustBeClosed 2 1 0 := k_virtual (index := 130) d_M_pattern_6 cs_M_mustBeClosed rfl rfl t_5_88 t_5_90 ts_24
theorem s_M_pattern_11 : kGet TT cl6 X mi_M_pattern 11 2 1 := k_get (index := 134) cK_2 d_M_pattern_11 (by decide) ⟨"Miterhouse$Closed", Or.inl t_4_197, Or.inl rfl⟩
theorem s_M_pattern_15 : kCall TT cl6 X mi_M_pattern 15 3 mi_V_isKept 2 2 3 := k_virtual (index := 192) d_M_pattern_15 cs_V_isKept rfl rfl t_5_156 t_2_53 t_2_54
theorem s_M_pattern_21 (h : HX X L9 xs) : kThr TT cl6 X mi_M_pattern 21 "java/lang/UnsupportedOperationException" 6 82 := k_thr (ik := 53) (is := 195) (ic := 57) (names := exn) (hx_t h) (hx_s h 15 rfl) (by decide +kernel) (by decide +kernel) t_2_154 t_1_6 (thr_in (by decide +kernel)) (by decide +kernel) d_M_pattern_21 d_M_pattern_24 d_M_pattern_25 d_M_pattern_27 d_M_pattern_30 (by decide)
theorem s_M_pattern_32 : kGet TT cl6 X mi_M_pattern 32 2 3 := k_get (index := 197) cK_2 d_M_pattern_32 (by decide) ⟨"Miterhouse$Closed", Or.inl t_4_201, Or.inl rfl⟩
theorem s_M_pattern_35 : kGet TT cl6 X mi_M_pattern 35 5 4 := k_get (index := 201) cK_5 d_M_pattern_35 (by decide) ⟨"Miterhouse$Sweeping", Or.inl t_3_211, Or.inl rfl⟩
theorem s_M_pattern_43 (h : HX X L9 xs) : kThr TT cl6 X mi_M_pattern 43 "java/lang/IllegalStateException" 6 82 := k_thr (ik := 34) (is := 206) (ic := 38) (names := exn) (hx_t h) (hx_s h 16 rfl) (by decide +kernel) (by decide +kernel) t_2_195 t_1_20 (thr_in (by decide +kernel)) (by decide +kernel) d_M_pattern_43 d_M_pattern_46 d_M_pattern_47 d_M_pattern_49 d_M_pattern_52 (by decide)
theorem s_M_pattern_54 : kGet TT cl6 X mi_M_pattern 54 2 3 := k_get (index := 197) cK_2 d_M_pattern_54 (by decide) ⟨"Miterhouse$Closed", Or.inl t_4_201, Or.inl rfl⟩
theorem s_M_pattern_58 : kCall TT cl6 X mi_M_pattern 58 3 mi_S_addPattern 2 2 5 := k_virtual (index := 208) d_M_pattern_58 cs_S_addPattern rfl rfl t_5_159 t_5_160 t_5_161
theorem d_M_patterns_0 : decode mi_M_patterns.2.1 0 = .ok (.aload_n 0, 1) := by decide +kernel
theorem d_M_patterns_1 : decode mi_M_patterns.2.1 1 = .ok (.getfield 20, 3) := by decide +kernel
theorem d_M_patterns_4 : decode mi_M_patterns.2.1 4 = .ok (.ifnonnull (7), 3) := by decide +kernel
theorem d_M_patterns_7 : decode mi_M_patterns.2.1 7 = .ok (.iconst (0), 1) := by decide +kernel
theorem d_M_patterns_8 : decode mi_M_patterns.2.1 8 = .ok (.goto (13), 3) := by decide +kernel
theorem d_M_patterns_11 : decode mi_M_patterns.2.1 11 = .ok (.aload_n 0, 1) := by decide +kernel
theorem d_M_patterns_12 : decode mi_M_patterns.2.1 12 = .ok (.getfield 20, 3) := by decide +kernel
theorem d_M_patterns_15 : decode mi_M_patterns.2.1 15 = .ok (.getfield 197, 3) := by decide +kernel
theorem d_M_patterns_18 : decode mi_M_patterns.2.1 18 = .ok (.getfield 201, 3) := by decide +kernel
theorem d_M_patterns_21 : decode mi_M_patterns.2.1 21 = .ok (.ireturn, 1) := by decide +kernel
theorem s_M_patterns_1 : kGet TT cl6 X mi_M_patterns 1 0 2 := k_get (index := 20) cK_0 d_M_patterns_1 (by decide) ⟨"Miterhouse", Or.inl t_1_96, Or.inl rfl⟩
theorem s_M_patterns_12 : kGet TT cl6 X mi_M_patterns 12 0 2 := k_get (index := 20) cK_0 d_M_patterns_12 (by decide) ⟨"Miterhouse", Or.inl t_1_96, Or.inl rfl⟩
theorem s_M_patterns_15 : kGet TT cl6 X mi_M_patterns 15 2 3 := k_get (index := 197) cK_2 d_M_patterns_15 (by decide) ⟨"Miterhouse$Closed", Or.inl t_4_201, Or.inl rfl⟩
theorem s_M_patterns_18 : kGet TT cl6 X mi_M_patterns 18 5 4 := k_get (index := 201) cK_5 d_M_patterns_18 (by decide) ⟨"Miterhouse$Sweeping", Or.inl t_3_211, Or.inl rfl⟩
theorem d_M_proof_0 : decode mi_M_proof.2.1 0 = .ok (.aload_n 0, 1) := by decide +kernel
theorem d_M_proof_1 : decode mi_M_proof.2.1 1 = .ok (.iload_n 1, 1) := by decide +kernel
theorem d_M_proof_2 : decode mi_M_proof.2.1 2 = .ok (.invokevirtual 77, 3) := by decide +kernel
theorem d_M_proof_5 : decode mi_M_proof.2.1 5 = .ok (.aload_n 0, 1) := by decide +kernel
theorem d_M_proof_6 : decode mi_M_proof.2.1 6 = .ok (.iload_n 2, 1) := by decide +kernel
theorem d_M_proof_7 : decode mi_M_proof.2.1 7 = .ok (.invokevirtual 77, 3) := by decide +kernel
theorem d_M_proof_10 : decode mi_M_proof.2.1 10 = .ok (.aload_n 0, 1) := by decide +kernel
theorem d_M_proof_11 : decode mi_M_proof.2.1 11 = .ok (.invokevirtual 130, 3) := by decide +kernel
theorem d_M_proof_14 : decode mi_M_proof.2.1 14 = .ok (.getfield 197, 3) := by decide +kernel
theorem d_M_proof_17 : decode mi_M_proof.2.1 17 = .ok (.astore 4, 2) := by decide +kernel
theorem d_M_proof_19 : decode mi_M_proof.2.1 19 = .ok (.aload 4, 2) := by decide +kernel
theorem d_M_proof_21 : decode mi_M_proof.2.1 21 = .ok (.iload_n 1, 1) := by decide +kernel
theorem d_M_proof_22 : decode mi_M_proof.2.1 22 = .ok (.iload_n 2, 1) := by decide +kernel
theorem d_M_proof_23 : decode mi_M_proof.2.1 23 = .ok (.iload_n 3, 1) := by decide +kernel
theorem d_M_proof_24 : decode mi_M_proof.2.1 24 = .ok (.invokevirtual 218, 3) := by decide +kernel
theorem d_M_proof_27 : decode mi_M_proof.2.1 27 = .ok (.aload 4, 2) := by decide +kernel
theorem d_M_proof_29 : decode mi_M_proof.2.1 29 = .ok (.getfield 225, 3) := by decide +kernel
theorem d_M_proof_32 : decode mi_M_proof.2.1 32 = .ok (.ifCond .lt (13), 3) := by decide +kernel
theorem d_M_proof_35 : decode mi_M_proof.2.1 35 = .ok (.new 181, 3) := by decide +kernel
theorem d_M_proof_38 : decode mi_M_proof.2.1 38 = .ok (.dup, 1) := by decide +kernel
theorem d_M_proof_39 : decode mi_M_proof.2.1 39 = .ok (.ldc 228, 2) := by decide +kernel
theorem d_M_proof_41 : decode mi_M_proof.2.1 41 = .ok (.invokespecial 185, 3) := by decide +kernel
theorem d_M_proof_44 : decode mi_M_proof.2.1 44 = .ok (.athrow, 1) := by decide +kernel
theorem d_M_proof_45 : decode mi_M_proof.2.1 45 = .ok (.aload 4, 2) := by decide +kernel
theorem d_M_proof_47 : decode mi_M_proof.2.1 47 = .ok (.getfield 222, 3) := by decide +kernel
theorem d_M_proof_50 : decode mi_M_proof.2.1 50 = .ok (.ireturn, 1) := by decide +kernel
theorem s_M_proof_2 : kCall TT cl6 X mi_M_proof 2 3 mi_M_mustBeLine 2 2 0 := k_virtual (index := 77) d_M_proof_2 cs_M_mustBeLine rfl rfl t_3_19 t_3_21 ts_17
theorem s_M_proof_7 : kCall TT cl6 X mi_M_proof 7 3 mi_M_mustBeLine 2 2 0 := k_virtual (index := 77) d_M_proof_7 cs_M_mustBeLine rfl rfl t_3_19 t_3_21 ts_17
theorem s_M_proof_11 : kCall TT cl6 X mi_M_proof 11 3 mi_M_mustBeClosed 2 1 0 := k_virtual (index := 130) d_M_proof_11 cs_M_mustBeClosed rfl rfl t_5_88 t_5_90 ts_24
theorem s_M_proof_14 : kGet TT cl6 X mi_M_proof 14 2 3 := k_get (index := 197) cK_2 d_M_proof_14 (by decide) ⟨"Miterhouse$Closed", Or.inl t_4_201, Or.inl rfl⟩
theorem s_M_proof_24 : kCall TT cl6 X mi_M_proof 24 3 mi_S_compare 2 4 5 := k_virtual (index := 218) d_M_proof_24 cs_S_compare rfl rfl t_5_176 t_2_35 t_2_36
theorem s_M_proof_29 : kGet TT cl6 X mi_M_proof 29 5 8 := k_get (index := 225) cK_5 d_M_proof_29 (by decide) ⟨"Miterhouse$Sweeping", Or.inl t_3_218, Or.inl rfl⟩
theorem s_M_proof_47 : kGet TT cl6 X mi_M_proof 47 5 7 := k_get (index := 222) cK_5 d_M_proof_47 (by decide) ⟨"Miterhouse$Sweeping", Or.inl t_3_216, Or.inl rfl⟩
end RW0
