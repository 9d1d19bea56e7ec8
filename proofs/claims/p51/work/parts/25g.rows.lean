section RW6
variable {X : XT} {L9 : Nat} {xs : Nat → Int32}
theorem d_T_traceAt_0 : decode mi_T_traceAt.2.1 0 = .ok (.aload_n 0, 1) := by decide +kernel
theorem d_T_traceAt_1 : decode mi_T_traceAt.2.1 1 = .ok (.getfield 57, 3) := by decide +kernel
theorem d_T_traceAt_4 : decode mi_T_traceAt.2.1 4 = .ok (.iload_n 1, 1) := by decide +kernel
theorem d_T_traceAt_5 : decode mi_T_traceAt.2.1 5 = .ok (.invokestatic 104, 3) := by decide +kernel
theorem d_T_traceAt_8 : decode mi_T_traceAt.2.1 8 = .ok (.ireturn, 1) := by decide +kernel
theorem s_T_traceAt_1 : kGet TT cl6 X mi_T_traceAt 1 6 9 := k_get (index := 57) cK_6 d_T_traceAt_1 (by decide) ⟨"Miterhouse$States", Or.inl t_4_153, Or.inl rfl⟩
theorem s_T_traceAt_5 : kCall TT cl6 X mi_T_traceAt 5 3 mi_M_numberAt 4 2 0 := k_staticN (index := 104) d_T_traceAt_5 cs_M_numberAt rfl t_1_186 t_1_138
theorem d_T_writeTrace_0 : decode mi_T_writeTrace.2.1 0 = .ok (.iload_n 1, 1) := by decide +kernel
theorem d_T_writeTrace_1 : decode mi_T_writeTrace.2.1 1 = .ok (.istore_n 3, 1) := by decide +kernel
theorem d_T_writeTrace_2 : decode mi_T_writeTrace.2.1 2 = .ok (.aload_n 0, 1) := by decide +kernel
theorem d_T_writeTrace_3 : decode mi_T_writeTrace.2.1 3 = .ok (.getfield 57, 3) := by decide +kernel
theorem d_T_writeTrace_6 : decode mi_T_writeTrace.2.1 6 = .ok (.aload_n 0, 1) := by decide +kernel
theorem d_T_writeTrace_7 : decode mi_T_writeTrace.2.1 7 = .ok (.getfield 76, 3) := by decide +kernel
theorem d_T_writeTrace_10 : decode mi_T_writeTrace.2.1 10 = .ok (.iload_n 2, 1) := by decide +kernel
theorem d_T_writeTrace_11 : decode mi_T_writeTrace.2.1 11 = .ok (.invokestatic 134, 3) := by decide +kernel
theorem d_T_writeTrace_14 : decode mi_T_writeTrace.2.1 14 = .ok (.aload_n 0, 1) := by decide +kernel
theorem d_T_writeTrace_15 : decode mi_T_writeTrace.2.1 15 = .ok (.getfield 76, 3) := by decide +kernel
theorem d_T_writeTrace_18 : decode mi_T_writeTrace.2.1 18 = .ok (.iconst (1), 1) := by decide +kernel
theorem d_T_writeTrace_19 : decode mi_T_writeTrace.2.1 19 = .ok (.isub, 1) := by decide +kernel
theorem d_T_writeTrace_20 : decode mi_T_writeTrace.2.1 20 = .ok (.istore 4, 2) := by decide +kernel
theorem d_T_writeTrace_22 : decode mi_T_writeTrace.2.1 22 = .ok (.iload 4, 2) := by decide +kernel
theorem d_T_writeTrace_24 : decode mi_T_writeTrace.2.1 24 = .ok (.ifCond .lt (35), 3) := by decide +kernel
theorem d_T_writeTrace_27 : decode mi_T_writeTrace.2.1 27 = .ok (.aload_n 0, 1) := by decide +kernel
theorem d_T_writeTrace_28 : decode mi_T_writeTrace.2.1 28 = .ok (.getfield 57, 3) := by decide +kernel
theorem d_T_writeTrace_31 : decode mi_T_writeTrace.2.1 31 = .ok (.iload 4, 2) := by decide +kernel
theorem d_T_writeTrace_33 : decode mi_T_writeTrace.2.1 33 = .ok (.aload_n 0, 1) := by decide +kernel
theorem d_T_writeTrace_34 : decode mi_T_writeTrace.2.1 34 = .ok (.getfield 51, 3) := by decide +kernel
theorem d_T_writeTrace_37 : decode mi_T_writeTrace.2.1 37 = .ok (.iload_n 3, 1) := by decide +kernel
theorem d_T_writeTrace_38 : decode mi_T_writeTrace.2.1 38 = .ok (.invokestatic 104, 3) := by decide +kernel
theorem d_T_writeTrace_41 : decode mi_T_writeTrace.2.1 41 = .ok (.invokestatic 134, 3) := by decide +kernel
theorem d_T_writeTrace_44 : decode mi_T_writeTrace.2.1 44 = .ok (.aload_n 0, 1) := by decide +kernel
theorem d_T_writeTrace_45 : decode mi_T_writeTrace.2.1 45 = .ok (.getfield 48, 3) := by decide +kernel
theorem d_T_writeTrace_48 : decode mi_T_writeTrace.2.1 48 = .ok (.iload_n 3, 1) := by decide +kernel
theorem d_T_writeTrace_49 : decode mi_T_writeTrace.2.1 49 = .ok (.invokestatic 104, 3) := by decide +kernel
theorem d_T_writeTrace_52 : decode mi_T_writeTrace.2.1 52 = .ok (.istore_n 3, 1) := by decide +kernel
theorem d_T_writeTrace_53 : decode mi_T_writeTrace.2.1 53 = .ok (.iinc 4 (-1), 3) := by decide +kernel
theorem d_T_writeTrace_56 : decode mi_T_writeTrace.2.1 56 = .ok (.goto (-34), 3) := by decide +kernel
theorem d_T_writeTrace_59 : decode mi_T_writeTrace.2.1 59 = .ok (.return_, 1) := by decide +kernel
theorem s_T_writeTrace_3 : kGet TT cl6 X mi_T_writeTrace 3 6 9 := k_get (index := 57) cK_6 d_T_writeTrace_3 (by decide) ⟨"Miterhouse$States", Or.inl t_4_153, Or.inl rfl⟩
theorem s_T_writeTrace_7 : kGet TT cl6 X mi_T_writeTrace 7 6 15 := k_get (index := 76) cK_6 d_T_writeTrace_7 (by decide) ⟨"Miterhouse$States", Or.inl t_4_160, Or.inl rfl⟩
theorem s_T_writeTrace_11 : kCall TT cl6 X mi_T_writeTrace 11 3 mi_M_putNumber 4 3 0 := k_staticN (index := 134) d_T_writeTrace_11 cs_M_putNumber rfl t_1_183 t_1_184
theorem s_T_writeTrace_15 : kGet TT cl6 X mi_T_writeTrace 15 6 15 := k_get (index := 76) cK_6 d_T_writeTrace_15 (by decide) ⟨"Miterhouse$States", Or.inl t_4_160, Or.inl rfl⟩
theorem s_T_writeTrace_28 : kGet TT cl6 X mi_T_writeTrace 28 6 9 := k_get (index := 57) cK_6 d_T_writeTrace_28 (by decide) ⟨"Miterhouse$States", Or.inl t_4_153, Or.inl rfl⟩
theorem s_T_writeTrace_34 : kGet TT cl6 X mi_T_writeTrace 34 6 7 := k_get (index := 51) cK_6 d_T_writeTrace_34 (by decide) ⟨"Miterhouse$States", Or.inl t_4_151, Or.inl rfl⟩
theorem s_T_writeTrace_38 : kCall TT cl6 X mi_T_writeTrace 38 3 mi_M_numberAt 4 2 0 := k_staticN (index := 104) d_T_writeTrace_38 cs_M_numberAt rfl t_1_186 t_1_138
theorem s_T_writeTrace_41 : kCall TT cl6 X mi_T_writeTrace 41 3 mi_M_putNumber 4 3 0 := k_staticN (index := 134) d_T_writeTrace_41 cs_M_putNumber rfl t_1_183 t_1_184
theorem s_T_writeTrace_45 : kGet TT cl6 X mi_T_writeTrace 45 6 6 := k_get (index := 48) cK_6 d_T_writeTrace_45 (by decide) ⟨"Miterhouse$States", Or.inl t_4_150, Or.inl rfl⟩
theorem s_T_writeTrace_49 : kCall TT cl6 X mi_T_writeTrace 49 3 mi_M_numberAt 4 2 0 := k_staticN (index := 104) d_T_writeTrace_49 cs_M_numberAt rfl t_1_186 t_1_138
theorem d_H_init_0 : decode mi_H_init.2.1 0 = .ok (.aload_n 0, 1) := by decide +kernel
theorem d_H_init_1 : decode mi_H_init.2.1 1 = .ok (.invokespecial 3, 3) := by decide +kernel
theorem d_H_init_4 : decode mi_H_init.2.1 4 = .ok (.aload_n 0, 1) := by decide +kernel
theorem d_H_init_5 : decode mi_H_init.2.1 5 = .ok (.aload_n 1, 1) := by decide +kernel
theorem d_H_init_6 : decode mi_H_init.2.1 6 = .ok (.putfield 9, 3) := by decide +kernel
theorem d_H_init_9 : decode mi_H_init.2.1 9 = .ok (.aload_n 0, 1) := by decide +kernel
theorem d_H_init_10 : decode mi_H_init.2.1 10 = .ok (.new 15, 3) := by decide +kernel
theorem d_H_init_13 : decode mi_H_init.2.1 13 = .ok (.dup, 1) := by decide +kernel
theorem d_H_init_14 : decode mi_H_init.2.1 14 = .ok (.aload_n 1, 1) := by decide +kernel
theorem d_H_init_15 : decode mi_H_init.2.1 15 = .ok (.invokespecial 17, 3) := by decide +kernel
theorem d_H_init_18 : decode mi_H_init.2.1 18 = .ok (.putfield 20, 3) := by decide +kernel
theorem d_H_init_21 : decode mi_H_init.2.1 21 = .ok (.aload_n 0, 1) := by decide +kernel
theorem d_H_init_22 : decode mi_H_init.2.1 22 = .ok (.new 24, 3) := by decide +kernel
theorem d_H_init_25 : decode mi_H_init.2.1 25 = .ok (.dup, 1) := by decide +kernel
theorem d_H_init_26 : decode mi_H_init.2.1 26 = .ok (.aload_n 1, 1) := by decide +kernel
theorem d_H_init_27 : decode mi_H_init.2.1 27 = .ok (.invokespecial 26, 3) := by decide +kernel
theorem d_H_init_30 : decode mi_H_init.2.1 30 = .ok (.putfield 27, 3) := by decide +kernel
theorem d_H_init_33 : decode mi_H_init.2.1 33 = .ok (.aload_n 0, 1) := by decide +kernel
theorem d_H_init_34 : decode mi_H_init.2.1 34 = .ok (.new 31, 3) := by decide +kernel
theorem d_H_init_37 : decode mi_H_init.2.1 37 = .ok (.dup, 1) := by decide +kernel
theorem d_H_init_38 : decode mi_H_init.2.1 38 = .ok (.aload_n 1, 1) := by decide +kernel
theorem d_H_init_39 : decode mi_H_init.2.1 39 = .ok (.aload_n 0, 1) := by decide +kernel
theorem d_H_init_40 : decode mi_H_init.2.1 40 = .ok (.getfield 20, 3) := by decide +kernel
theorem d_H_init_43 : decode mi_H_init.2.1 43 = .ok (.invokespecial 33, 3) := by decide +kernel
theorem d_H_init_46 : decode mi_H_init.2.1 46 = .ok (.putfield 36, 3) := by decide +kernel
theorem d_H_init_49 : decode mi_H_init.2.1 49 = .ok (.aload_n 0, 1) := by decide +kernel
theorem d_H_init_50 : decode mi_H_init.2.1 50 = .ok (.new 40, 3) := by decide +kernel
theorem d_H_init_53 : decode mi_H_init.2.1 53 = .ok (.dup, 1) := by decide +kernel
theorem d_H_init_54 : decode mi_H_init.2.1 54 = .ok (.aload_n 1, 1) := by decide +kernel
theorem d_H_init_55 : decode mi_H_init.2.1 55 = .ok (.aload_n 0, 1) := by decide +kernel
theorem d_H_init_56 : decode mi_H_init.2.1 56 = .ok (.getfield 20, 3) := by decide +kernel
theorem d_H_init_59 : decode mi_H_init.2.1 59 = .ok (.invokespecial 42, 3) := by decide +kernel
theorem d_H_init_62 : decode mi_H_init.2.1 62 = .ok (.putfield 43, 3) := by decide +kernel
theorem d_H_init_65 : decode mi_H_init.2.1 65 = .ok (.aload_n 0, 1) := by decide +kernel
theorem d_H_init_66 : decode mi_H_init.2.1 66 = .ok (.new 47, 3) := by decide +kernel
theorem d_H_init_69 : decode mi_H_init.2.1 69 = .ok (.dup, 1) := by decide +kernel
theorem d_H_init_70 : decode mi_H_init.2.1 70 = .ok (.aload_n 0, 1) := by decide +kernel
theorem d_H_init_71 : decode mi_H_init.2.1 71 = .ok (.getfield 27, 3) := by decide +kernel
theorem d_H_init_74 : decode mi_H_init.2.1 74 = .ok (.iconst (2), 1) := by decide +kernel
theorem d_H_init_75 : decode mi_H_init.2.1 75 = .ok (.invokespecial 49, 3) := by decide +kernel
theorem d_H_init_78 : decode mi_H_init.2.1 78 = .ok (.putfield 52, 3) := by decide +kernel
theorem d_H_init_81 : decode mi_H_init.2.1 81 = .ok (.aload_n 0, 1) := by decide +kernel
theorem d_H_init_82 : decode mi_H_init.2.1 82 = .ok (.new 47, 3) := by decide +kernel
theorem d_H_init_85 : decode mi_H_init.2.1 85 = .ok (.dup, 1) := by decide +kernel
theorem d_H_init_86 : decode mi_H_init.2.1 86 = .ok (.aload_n 0, 1) := by decide +kernel
theorem d_H_init_87 : decode mi_H_init.2.1 87 = .ok (.getfield 27, 3) := by decide +kernel
theorem d_H_init_90 : decode mi_H_init.2.1 90 = .ok (.iconst (3), 1) := by decide +kernel
theorem d_H_init_91 : decode mi_H_init.2.1 91 = .ok (.invokespecial 49, 3) := by decide +kernel
theorem d_H_init_94 : decode mi_H_init.2.1 94 = .ok (.putfield 56, 3) := by decide +kernel
theorem d_H_init_97 : decode mi_H_init.2.1 97 = .ok (.aload_n 0, 1) := by decide +kernel
theorem d_H_init_98 : decode mi_H_init.2.1 98 = .ok (.new 47, 3) := by decide +kernel
theorem d_H_init_101 : decode mi_H_init.2.1 101 = .ok (.dup, 1) := by decide +kernel
theorem d_H_init_102 : decode mi_H_init.2.1 102 = .ok (.aload_n 0, 1) := by decide +kernel
theorem d_H_init_103 : decode mi_H_init.2.1 103 = .ok (.getfield 27, 3) := by decide +kernel
theorem d_H_init_106 : decode mi_H_init.2.1 106 = .ok (.iconst (4), 1) := by decide +kernel
theorem d_H_init_107 : decode mi_H_init.2.1 107 = .ok (.invokespecial 49, 3) := by decide +kernel
theorem d_H_init_110 : decode mi_H_init.2.1 110 = .ok (.putfield 59, 3) := by decide +kernel
theorem d_H_init_113 : decode mi_H_init.2.1 113 = .ok (.aload_n 0, 1) := by decide +kernel
theorem d_H_init_114 : decode mi_H_init.2.1 114 = .ok (.new 62, 3) := by decide +kernel
theorem d_H_init_117 : decode mi_H_init.2.1 117 = .ok (.dup, 1) := by decide +kernel
theorem d_H_init_118 : decode mi_H_init.2.1 118 = .ok (.aload_n 1, 1) := by decide +kernel
theorem d_H_init_119 : decode mi_H_init.2.1 119 = .ok (.aload_n 0, 1) := by decide +kernel
theorem d_H_init_120 : decode mi_H_init.2.1 120 = .ok (.getfield 20, 3) := by decide +kernel
theorem d_H_init_123 : decode mi_H_init.2.1 123 = .ok (.invokespecial 64, 3) := by decide +kernel
theorem d_H_init_126 : decode mi_H_init.2.1 126 = .ok (.putfield 65, 3) := by decide +kernel
theorem d_H_init_129 : decode mi_H_init.2.1 129 = .ok (.aload_n 0, 1) := by decide +kernel
theorem d_H_init_130 : decode mi_H_init.2.1 130 = .ok (.new 69, 3) := by decide +kernel
theorem d_H_init_133 : decode mi_H_init.2.1 133 = .ok (.dup, 1) := by decide +kernel
theorem d_H_init_134 : decode mi_H_init.2.1 134 = .ok (.aload_n 1, 1) := by decide +kernel
theorem d_H_init_135 : decode mi_H_init.2.1 135 = .ok (.aload_n 0, 1) := by decide +kernel
theorem d_H_init_136 : decode mi_H_init.2.1 136 = .ok (.getfield 20, 3) := by decide +kernel
theorem d_H_init_139 : decode mi_H_init.2.1 139 = .ok (.invokespecial 71, 3) := by decide +kernel
theorem d_H_init_142 : decode mi_H_init.2.1 142 = .ok (.putfield 72, 3) := by decide +kernel
theorem d_H_init_145 : decode mi_H_init.2.1 145 = .ok (.aload_n 0, 1) := by decide +kernel
theorem d_H_init_146 : decode mi_H_init.2.1 146 = .ok (.new 76, 3) := by decide +kernel
theorem d_H_init_149 : decode mi_H_init.2.1 149 = .ok (.dup, 1) := by decide +kernel
theorem d_H_init_150 : decode mi_H_init.2.1 150 = .ok (.aload_n 1, 1) := by decide +kernel
theorem d_H_init_151 : decode mi_H_init.2.1 151 = .ok (.aload_n 0, 1) := by decide +kernel
theorem d_H_init_152 : decode mi_H_init.2.1 152 = .ok (.getfield 20, 3) := by decide +kernel
theorem d_H_init_155 : decode mi_H_init.2.1 155 = .ok (.invokespecial 78, 3) := by decide +kernel
theorem d_H_init_158 : decode mi_H_init.2.1 158 = .ok (.putfield 79, 3) := by decide +kernel
theorem d_H_init_161 : decode mi_H_init.2.1 161 = .ok (.aload_n 0, 1) := by decide +kernel
theorem d_H_init_162 : decode mi_H_init.2.1 162 = .ok (.sipush (256), 3) := by decide +kernel
theorem d_H_init_165 : decode mi_H_init.2.1 165 = .ok (.newarray .long, 2) := by decide +kernel
theorem d_H_init_167 : decode mi_H_init.2.1 167 = .ok (.putfield 83, 3) := by decide +kernel
theorem d_H_init_170 : decode mi_H_init.2.1 170 = .ok (.return_, 1) := by decide +kernel
theorem s_H_init_1 : kObj TT cl6 X mi_H_init 1 := k_obj (index := 3) d_H_init_1 t_3_108 t_1_36 t_1_37
theorem s_H_init_6 : kPut TT cl6 X mi_H_init 6 2 0 (.object "Miterhouse$Nets") := k_putF (index := 9) cK_2 d_H_init_6 (by decide) t_4_195 rfl rfl rfl
theorem s_H_init_10 : kNew TT cl6 X mi_H_init 10 3 12 [.null, .int 0, .int 0, .long 0, .null, .null, .null, .null, .null, .int 0, .int 0, .long 0] := k_new (index := 15) cK_3 d_H_init_10 t_3_109 t_3_110 t_1_8 (by decide +kernel) (by decide)
theorem s_H_init_15 : kCall TT cl6 X mi_H_init 15 3 mi_V_init 3 2 0 := k_init (index := 17) d_H_init_15 cs_V_init rfl rfl rfl t_3_111 t_3_112
theorem s_H_init_18 : kPut TT cl6 X mi_H_init 18 2 1 (.object "Miterhouse$Values") := k_putF (index := 20) cK_2 d_H_init_18 (by decide) t_4_196 rfl rfl rfl
theorem s_H_init_22 : kNew TT cl6 X mi_H_init 22 4 6 [.null, .null, .null, .null, .int 0, .int 0] := k_new (index := 24) cK_4 d_H_init_22 t_3_174 t_3_175 t_1_10 (by decide +kernel) (by decide)
theorem s_H_init_27 : kCall TT cl6 X mi_H_init 27 3 mi_A_init 3 2 0 := k_init (index := 26) d_H_init_27 cs_A_init rfl rfl rfl t_3_176 t_3_177
theorem s_H_init_30 : kPut TT cl6 X mi_H_init 30 2 2 (.object "Miterhouse$Ands") := k_putF (index := 27) cK_2 d_H_init_30 (by decide) t_4_198 rfl rfl rfl
theorem s_H_init_34 : kNew TT cl6 X mi_H_init 34 5 9 [.null, .null, .null, .null, .int 0, .int 0, .long 0, .int 0, .int 0] := k_new (index := 31) cK_5 d_H_init_34 t_3_201 t_2_11 t_1_11 (by decide +kernel) (by decide)
theorem s_H_init_40 : kGet TT cl6 X mi_H_init 40 2 1 := k_get (index := 20) cK_2 d_H_init_40 (by decide) ⟨"Miterhouse$Closed", Or.inl t_4_196, Or.inl rfl⟩
theorem s_H_init_43 : kCall TT cl6 X mi_H_init 43 3 mi_S_init 3 3 0 := k_init (index := 33) d_H_init_43 cs_S_init rfl rfl rfl t_3_202 t_3_203
theorem s_H_init_46 : kPut TT cl6 X mi_H_init 46 2 3 (.object "Miterhouse$Sweeping") := k_putF (index := 36) cK_2 d_H_init_46 (by decide) t_4_200 rfl rfl rfl
theorem s_H_init_50 : kNew TT cl6 X mi_H_init 50 7 11 [.null, .null, .int 0, .int 0, .null, .null, .null, .null, .null, .null, .int 0] := k_new (index := 40) cK_7 d_H_init_50 t_3_238 t_3_239 t_1_12 (by decide +kernel) (by decide)
theorem s_H_init_56 : kGet TT cl6 X mi_H_init 56 2 1 := k_get (index := 20) cK_2 d_H_init_56 (by decide) ⟨"Miterhouse$Closed", Or.inl t_4_196, Or.inl rfl⟩
theorem s_H_init_59 : kCall TT cl6 X mi_H_init 59 3 mi_D_init 3 3 0 := k_init (index := 42) d_H_init_59 cs_D_init rfl rfl rfl t_4_0 t_4_1
theorem s_H_init_62 : kPut TT cl6 X mi_H_init 62 2 4 (.object "Miterhouse$Diagrams") := k_putF (index := 43) cK_2 d_H_init_62 (by decide) t_4_202 rfl rfl rfl
theorem s_H_init_66 : kNew TT cl6 X mi_H_init 66 8 8 [.null, .int 0, .null, .null, .null, .null, .int 0, .int 0] := k_new (index := 47) cK_8 d_H_init_66 t_4_60 t_4_61 t_1_14 (by decide +kernel) (by decide)
theorem s_H_init_71 : kGet TT cl6 X mi_H_init 71 2 2 := k_get (index := 27) cK_2 d_H_init_71 (by decide) ⟨"Miterhouse$Closed", Or.inl t_4_198, Or.inl rfl⟩
theorem s_H_init_75 : kCall TT cl6 X mi_H_init 75 3 mi_C_init 3 3 0 := k_init (index := 49) d_H_init_75 cs_C_init rfl rfl rfl t_4_62 t_4_63
theorem s_H_init_78 : kPut TT cl6 X mi_H_init 78 2 5 (.object "Miterhouse$Cuts") := k_putF (index := 52) cK_2 d_H_init_78 (by decide) t_4_203 rfl rfl rfl
theorem s_H_init_82 : kNew TT cl6 X mi_H_init 82 8 8 [.null, .int 0, .null, .null, .null, .null, .int 0, .int 0] := k_new (index := 47) cK_8 d_H_init_82 t_4_60 t_4_61 t_1_14 (by decide +kernel) (by decide)
theorem s_H_init_87 : kGet TT cl6 X mi_H_init 87 2 2 := k_get (index := 27) cK_2 d_H_init_87 (by decide) ⟨"Miterhouse$Closed", Or.inl t_4_198, Or.inl rfl⟩
theorem s_H_init_91 : kCall TT cl6 X mi_H_init 91 3 mi_C_init 3 3 0 := k_init (index := 49) d_H_init_91 cs_C_init rfl rfl rfl t_4_62 t_4_63
theorem s_H_init_94 : kPut TT cl6 X mi_H_init 94 2 6 (.object "Miterhouse$Cuts") := k_putF (index := 56) cK_2 d_H_init_94 (by decide) t_4_204 rfl rfl rfl
theorem s_H_init_98 : kNew TT cl6 X mi_H_init 98 8 8 [.null, .int 0, .null, .null, .null, .null, .int 0, .int 0] := k_new (index := 47) cK_8 d_H_init_98 t_4_60 t_4_61 t_1_14 (by decide +kernel) (by decide)
theorem s_H_init_103 : kGet TT cl6 X mi_H_init 103 2 2 := k_get (index := 27) cK_2 d_H_init_103 (by decide) ⟨"Miterhouse$Closed", Or.inl t_4_198, Or.inl rfl⟩
theorem s_H_init_107 : kCall TT cl6 X mi_H_init 107 3 mi_C_init 3 3 0 := k_init (index := 49) d_H_init_107 cs_C_init rfl rfl rfl t_4_62 t_4_63
theorem s_H_init_110 : kPut TT cl6 X mi_H_init 110 2 7 (.object "Miterhouse$Cuts") := k_putF (index := 59) cK_2 d_H_init_110 (by decide) t_4_205 rfl rfl rfl
theorem s_H_init_114 : kNew TT cl6 X mi_H_init 114 9 5 [.null, .null, .null, .null, .int 0] := k_new (index := 62) cK_9 d_H_init_114 t_4_93 t_4_94 t_1_15 (by decide +kernel) (by decide)
theorem s_H_init_120 : kGet TT cl6 X mi_H_init 120 2 1 := k_get (index := 20) cK_2 d_H_init_120 (by decide) ⟨"Miterhouse$Closed", Or.inl t_4_196, Or.inl rfl⟩
theorem s_H_init_123 : kCall TT cl6 X mi_H_init 123 3 mi_R_init 3 3 0 := k_init (index := 64) d_H_init_123 cs_R_init rfl rfl rfl t_4_95 t_4_96
theorem s_H_init_126 : kPut TT cl6 X mi_H_init 126 2 8 (.object "Miterhouse$Care") := k_putF (index := 65) cK_2 d_H_init_126 (by decide) t_4_206 rfl rfl rfl
theorem s_H_init_130 : kNew TT cl6 X mi_H_init 130 10 5 [.null, .null, .null, .null, .int 0] := k_new (index := 69) cK_10 d_H_init_130 t_4_115 t_4_116 t_1_16 (by decide +kernel) (by decide)
theorem s_H_init_136 : kGet TT cl6 X mi_H_init 136 2 1 := k_get (index := 20) cK_2 d_H_init_136 (by decide) ⟨"Miterhouse$Closed", Or.inl t_4_196, Or.inl rfl⟩
theorem s_H_init_139 : kCall TT cl6 X mi_H_init 139 3 mi_G_init 3 3 0 := k_init (index := 71) d_H_init_139 cs_G_init rfl rfl rfl t_4_117 t_4_118
theorem s_H_init_142 : kPut TT cl6 X mi_H_init 142 2 9 (.object "Miterhouse$Registers") := k_putF (index := 72) cK_2 d_H_init_142 (by decide) t_4_207 rfl rfl rfl
theorem s_H_init_146 : kNew TT cl6 X mi_H_init 146 6 16 [.null, .null, .int 0, .int 0, .null, .null, .null, .null, .null, .null, .null, .null, .int 0, .int 0, .int 0, .int 0] := k_new (index := 76) cK_6 d_H_init_146 t_4_137 t_1_127 t_1_17 (by decide +kernel) (by decide)
theorem s_H_init_152 : kGet TT cl6 X mi_H_init 152 2 1 := k_get (index := 20) cK_2 d_H_init_152 (by decide) ⟨"Miterhouse$Closed", Or.inl t_4_196, Or.inl rfl⟩
theorem s_H_init_155 : kCall TT cl6 X mi_H_init 155 3 mi_T_init 3 3 0 := k_init (index := 78) d_H_init_155 cs_T_init rfl rfl rfl t_4_138 t_4_139
theorem s_H_init_158 : kPut TT cl6 X mi_H_init 158 2 10 (.object "Miterhouse$States") := k_putF (index := 79) cK_2 d_H_init_158 (by decide) t_4_208 rfl rfl rfl
theorem s_H_init_167 : kPut TT cl6 X mi_H_init 167 2 11 (.array .long) := k_putF (index := 83) cK_2 d_H_init_167 (by decide) t_4_210 rfl rfl rfl
theorem d_H_areLinesLiterals_0 : decode mi_H_areLinesLiterals.2.1 0 = .ok (.iconst (0), 1) := by decide +kernel
theorem d_H_areLinesLiterals_1 : decode mi_H_areLinesLiterals.2.1 1 = .ok (.istore_n 2, 1) := by decide +kernel
theorem d_H_areLinesLiterals_2 : decode mi_H_areLinesLiterals.2.1 2 = .ok (.iload_n 2, 1) := by decide +kernel
theorem d_H_areLinesLiterals_3 : decode mi_H_areLinesLiterals.2.1 3 = .ok (.aload_n 0, 1) := by decide +kernel
theorem d_H_areLinesLiterals_4 : decode mi_H_areLinesLiterals.2.1 4 = .ok (.getfield 27, 3) := by decide +kernel
theorem d_H_areLinesLiterals_7 : decode mi_H_areLinesLiterals.2.1 7 = .ok (.getfield 109, 3) := by decide +kernel
theorem d_H_areLinesLiterals_10 : decode mi_H_areLinesLiterals.2.1 10 = .ok (.if_icmp .ge (83), 3) := by decide +kernel
theorem d_H_areLinesLiterals_13 : decode mi_H_areLinesLiterals.2.1 13 = .ok (.lconst 0, 1) := by decide +kernel
theorem d_H_areLinesLiterals_14 : decode mi_H_areLinesLiterals.2.1 14 = .ok (.lstore_n 3, 1) := by decide +kernel
theorem d_H_areLinesLiterals_15 : decode mi_H_areLinesLiterals.2.1 15 = .ok (.aload_n 0, 1) := by decide +kernel
theorem d_H_areLinesLiterals_16 : decode mi_H_areLinesLiterals.2.1 16 = .ok (.getfield 27, 3) := by decide +kernel
theorem d_H_areLinesLiterals_19 : decode mi_H_areLinesLiterals.2.1 19 = .ok (.iload_n 2, 1) := by decide +kernel
theorem d_H_areLinesLiterals_20 : decode mi_H_areLinesLiterals.2.1 20 = .ok (.invokevirtual 112, 3) := by decide +kernel
theorem d_H_areLinesLiterals_23 : decode mi_H_areLinesLiterals.2.1 23 = .ok (.ifCond .eq (32), 3) := by decide +kernel
theorem d_H_areLinesLiterals_26 : decode mi_H_areLinesLiterals.2.1 26 = .ok (.aload_n 0, 1) := by decide +kernel
theorem d_H_areLinesLiterals_27 : decode mi_H_areLinesLiterals.2.1 27 = .ok (.aload_n 0, 1) := by decide +kernel
theorem d_H_areLinesLiterals_28 : decode mi_H_areLinesLiterals.2.1 28 = .ok (.getfield 27, 3) := by decide +kernel
theorem d_H_areLinesLiterals_31 : decode mi_H_areLinesLiterals.2.1 31 = .ok (.iload_n 2, 1) := by decide +kernel
theorem d_H_areLinesLiterals_32 : decode mi_H_areLinesLiterals.2.1 32 = .ok (.invokevirtual 115, 3) := by decide +kernel
theorem d_H_areLinesLiterals_35 : decode mi_H_areLinesLiterals.2.1 35 = .ok (.invokevirtual 119, 3) := by decide +kernel
theorem d_H_areLinesLiterals_38 : decode mi_H_areLinesLiterals.2.1 38 = .ok (.aload_n 0, 1) := by decide +kernel
theorem d_H_areLinesLiterals_39 : decode mi_H_areLinesLiterals.2.1 39 = .ok (.aload_n 0, 1) := by decide +kernel
theorem d_H_areLinesLiterals_40 : decode mi_H_areLinesLiterals.2.1 40 = .ok (.getfield 27, 3) := by decide +kernel
theorem d_H_areLinesLiterals_43 : decode mi_H_areLinesLiterals.2.1 43 = .ok (.iload_n 2, 1) := by decide +kernel
theorem d_H_areLinesLiterals_44 : decode mi_H_areLinesLiterals.2.1 44 = .ok (.invokevirtual 123, 3) := by decide +kernel
theorem d_H_areLinesLiterals_47 : decode mi_H_areLinesLiterals.2.1 47 = .ok (.invokevirtual 119, 3) := by decide +kernel
theorem d_H_areLinesLiterals_50 : decode mi_H_areLinesLiterals.2.1 50 = .ok (.land, 1) := by decide +kernel
theorem d_H_areLinesLiterals_51 : decode mi_H_areLinesLiterals.2.1 51 = .ok (.lstore_n 3, 1) := by decide +kernel
theorem d_H_areLinesLiterals_52 : decode mi_H_areLinesLiterals.2.1 52 = .ok (.goto (26), 3) := by decide +kernel
theorem d_H_areLinesLiterals_55 : decode mi_H_areLinesLiterals.2.1 55 = .ok (.iload_n 2, 1) := by decide +kernel
theorem d_H_areLinesLiterals_56 : decode mi_H_areLinesLiterals.2.1 56 = .ok (.ifCond .le (22), 3) := by decide +kernel
theorem d_H_areLinesLiterals_59 : decode mi_H_areLinesLiterals.2.1 59 = .ok (.aload_n 0, 1) := by decide +kernel
theorem d_H_areLinesLiterals_60 : decode mi_H_areLinesLiterals.2.1 60 = .ok (.getfield 20, 3) := by decide +kernel
theorem d_H_areLinesLiterals_63 : decode mi_H_areLinesLiterals.2.1 63 = .ok (.aload_n 0, 1) := by decide +kernel
theorem d_H_areLinesLiterals_64 : decode mi_H_areLinesLiterals.2.1 64 = .ok (.getfield 9, 3) := by decide +kernel
theorem d_H_areLinesLiterals_67 : decode mi_H_areLinesLiterals.2.1 67 = .ok (.iload_n 2, 1) := by decide +kernel
theorem d_H_areLinesLiterals_68 : decode mi_H_areLinesLiterals.2.1 68 = .ok (.iconst (1), 1) := by decide +kernel
theorem d_H_areLinesLiterals_69 : decode mi_H_areLinesLiterals.2.1 69 = .ok (.isub, 1) := by decide +kernel
theorem d_H_areLinesLiterals_70 : decode mi_H_areLinesLiterals.2.1 70 = .ok (.invokevirtual 126, 3) := by decide +kernel
theorem d_H_areLinesLiterals_73 : decode mi_H_areLinesLiterals.2.1 73 = .ok (.iload_n 1, 1) := by decide +kernel
theorem d_H_areLinesLiterals_74 : decode mi_H_areLinesLiterals.2.1 74 = .ok (.invokevirtual 131, 3) := by decide +kernel
theorem d_H_areLinesLiterals_77 : decode mi_H_areLinesLiterals.2.1 77 = .ok (.lstore_n 3, 1) := by decide +kernel
theorem d_H_areLinesLiterals_78 : decode mi_H_areLinesLiterals.2.1 78 = .ok (.aload_n 0, 1) := by decide +kernel
theorem d_H_areLinesLiterals_79 : decode mi_H_areLinesLiterals.2.1 79 = .ok (.getfield 83, 3) := by decide +kernel
theorem d_H_areLinesLiterals_82 : decode mi_H_areLinesLiterals.2.1 82 = .ok (.iload_n 2, 1) := by decide +kernel
theorem d_H_areLinesLiterals_83 : decode mi_H_areLinesLiterals.2.1 83 = .ok (.lload_n 3, 1) := by decide +kernel
theorem d_H_areLinesLiterals_84 : decode mi_H_areLinesLiterals.2.1 84 = .ok (.invokestatic 135, 3) := by decide +kernel
theorem d_H_areLinesLiterals_87 : decode mi_H_areLinesLiterals.2.1 87 = .ok (.iinc 2 (1), 3) := by decide +kernel
theorem d_H_areLinesLiterals_90 : decode mi_H_areLinesLiterals.2.1 90 = .ok (.goto (-88), 3) := by decide +kernel
theorem d_H_areLinesLiterals_93 : decode mi_H_areLinesLiterals.2.1 93 = .ok (.iconst (0), 1) := by decide +kernel
theorem d_H_areLinesLiterals_94 : decode mi_H_areLinesLiterals.2.1 94 = .ok (.istore_n 2, 1) := by decide +kernel
theorem d_H_areLinesLiterals_95 : decode mi_H_areLinesLiterals.2.1 95 = .ok (.iload_n 2, 1) := by decide +kernel
theorem d_H_areLinesLiterals_96 : decode mi_H_areLinesLiterals.2.1 96 = .ok (.aload_n 0, 1) := by decide +kernel
theorem d_H_areLinesLiterals_97 : decode mi_H_areLinesLiterals.2.1 97 = .ok (.getfield 9, 3) := by decide +kernel
theorem d_H_areLinesLiterals_100 : decode mi_H_areLinesLiterals.2.1 100 = .ok (.getfield 139, 3) := by decide +kernel
theorem d_H_areLinesLiterals_103 : decode mi_H_areLinesLiterals.2.1 103 = .ok (.if_icmp .ge (46), 3) := by decide +kernel
theorem d_H_areLinesLiterals_106 : decode mi_H_areLinesLiterals.2.1 106 = .ok (.aload_n 0, 1) := by decide +kernel
theorem d_H_areLinesLiterals_107 : decode mi_H_areLinesLiterals.2.1 107 = .ok (.aload_n 0, 1) := by decide +kernel
theorem d_H_areLinesLiterals_108 : decode mi_H_areLinesLiterals.2.1 108 = .ok (.getfield 27, 3) := by decide +kernel
theorem d_H_areLinesLiterals_111 : decode mi_H_areLinesLiterals.2.1 111 = .ok (.iload_n 2, 1) := by decide +kernel
theorem d_H_areLinesLiterals_112 : decode mi_H_areLinesLiterals.2.1 112 = .ok (.invokevirtual 142, 3) := by decide +kernel
theorem d_H_areLinesLiterals_115 : decode mi_H_areLinesLiterals.2.1 115 = .ok (.invokevirtual 119, 3) := by decide +kernel
theorem d_H_areLinesLiterals_118 : decode mi_H_areLinesLiterals.2.1 118 = .ok (.aload_n 0, 1) := by decide +kernel
theorem d_H_areLinesLiterals_119 : decode mi_H_areLinesLiterals.2.1 119 = .ok (.getfield 20, 3) := by decide +kernel
theorem d_H_areLinesLiterals_122 : decode mi_H_areLinesLiterals.2.1 122 = .ok (.getfield 145, 3) := by decide +kernel
theorem d_H_areLinesLiterals_125 : decode mi_H_areLinesLiterals.2.1 125 = .ok (.land, 1) := by decide +kernel
theorem d_H_areLinesLiterals_126 : decode mi_H_areLinesLiterals.2.1 126 = .ok (.lstore_n 3, 1) := by decide +kernel
theorem d_H_areLinesLiterals_127 : decode mi_H_areLinesLiterals.2.1 127 = .ok (.lload_n 3, 1) := by decide +kernel
theorem d_H_areLinesLiterals_128 : decode mi_H_areLinesLiterals.2.1 128 = .ok (.aload_n 0, 1) := by decide +kernel
theorem d_H_areLinesLiterals_129 : decode mi_H_areLinesLiterals.2.1 129 = .ok (.getfield 20, 3) := by decide +kernel
theorem d_H_areLinesLiterals_132 : decode mi_H_areLinesLiterals.2.1 132 = .ok (.iload_n 2, 1) := by decide +kernel
theorem d_H_areLinesLiterals_133 : decode mi_H_areLinesLiterals.2.1 133 = .ok (.iload_n 1, 1) := by decide +kernel
theorem d_H_areLinesLiterals_134 : decode mi_H_areLinesLiterals.2.1 134 = .ok (.invokevirtual 131, 3) := by decide +kernel
theorem d_H_areLinesLiterals_137 : decode mi_H_areLinesLiterals.2.1 137 = .ok (.lcmp, 1) := by decide +kernel
theorem d_H_areLinesLiterals_138 : decode mi_H_areLinesLiterals.2.1 138 = .ok (.ifCond .eq (5), 3) := by decide +kernel
theorem d_H_areLinesLiterals_141 : decode mi_H_areLinesLiterals.2.1 141 = .ok (.iconst (0), 1) := by decide +kernel
theorem d_H_areLinesLiterals_142 : decode mi_H_areLinesLiterals.2.1 142 = .ok (.ireturn, 1) := by decide +kernel
theorem d_H_areLinesLiterals_143 : decode mi_H_areLinesLiterals.2.1 143 = .ok (.iinc 2 (1), 3) := by decide +kernel
theorem d_H_areLinesLiterals_146 : decode mi_H_areLinesLiterals.2.1 146 = .ok (.goto (-51), 3) := by decide +kernel
theorem d_H_areLinesLiterals_149 : decode mi_H_areLinesLiterals.2.1 149 = .ok (.iconst (1), 1) := by decide +kernel
theorem d_H_areLinesLiterals_150 : decode mi_H_areLinesLiterals.2.1 150 = .ok (.ireturn, 1) := by decide +kernel
theorem s_H_areLinesLiterals_4 : kGet TT cl6 X mi_H_areLinesLiterals 4 2 2 := k_get (index := 27) cK_2 d_H_areLinesLiterals_4 (by decide) ⟨"Miterhouse$Closed", Or.inl t_4_198, Or.inl rfl⟩
theorem s_H_areLinesLiterals_7 : kGet TT cl6 X mi_H_areLinesLiterals 7 4 5 := k_get (index := 109) cK_4 d_H_areLinesLiterals_7 (by decide) ⟨"Miterhouse$Ands", Or.inl t_3_187, Or.inl rfl⟩
theorem s_H_areLinesLiterals_16 : kGet TT cl6 X mi_H_areLinesLiterals 16 2 2 := k_get (index := 27) cK_2 d_H_areLinesLiterals_16 (by decide) ⟨"Miterhouse$Closed", Or.inl t_4_198, Or.inl rfl⟩
theorem s_H_areLinesLiterals_20 : kCall TT cl6 X mi_H_areLinesLiterals 20 3 mi_A_isAnd 2 2 4 := k_virtual (index := 112) d_H_areLinesLiterals_20 cs_A_isAnd rfl rfl t_1_208 t_1_209 t_1_210
theorem s_H_areLinesLiterals_28 : kGet TT cl6 X mi_H_areLinesLiterals 28 2 2 := k_get (index := 27) cK_2 d_H_areLinesLiterals_28 (by decide) ⟨"Miterhouse$Closed", Or.inl t_4_198, Or.inl rfl⟩
theorem s_H_areLinesLiterals_32 : kCall TT cl6 X mi_H_areLinesLiterals 32 3 mi_A_lesserPin 2 2 4 := k_virtual (index := 115) d_H_areLinesLiterals_32 cs_A_lesserPin rfl rfl t_1_212 t_1_213 t_1_214
theorem s_H_areLinesLiterals_35 : kCall TT cl6 X mi_H_areLinesLiterals 35 3 mi_H_literalWord 2 2 2 := k_virtual (index := 119) d_H_areLinesLiterals_35 cs_H_literalWord rfl rfl t_1_217 t_1_219 ts_9
theorem s_H_areLinesLiterals_40 : kGet TT cl6 X mi_H_areLinesLiterals 40 2 2 := k_get (index := 27) cK_2 d_H_areLinesLiterals_40 (by decide) ⟨"Miterhouse$Closed", Or.inl t_4_198, Or.inl rfl⟩
theorem s_H_areLinesLiterals_44 : kCall TT cl6 X mi_H_areLinesLiterals 44 3 mi_A_greaterPin 2 2 4 := k_virtual (index := 123) d_H_areLinesLiterals_44 cs_A_greaterPin rfl rfl t_1_223 t_1_224 t_1_225
theorem s_H_areLinesLiterals_47 : kCall TT cl6 X mi_H_areLinesLiterals 47 3 mi_H_literalWord 2 2 2 := k_virtual (index := 119) d_H_areLinesLiterals_47 cs_H_literalWord rfl rfl t_1_217 t_1_219 ts_9
theorem s_H_areLinesLiterals_60 : kGet TT cl6 X mi_H_areLinesLiterals 60 2 1 := k_get (index := 20) cK_2 d_H_areLinesLiterals_60 (by decide) ⟨"Miterhouse$Closed", Or.inl t_4_196, Or.inl rfl⟩
theorem s_H_areLinesLiterals_64 : kGet TT cl6 X mi_H_areLinesLiterals 64 2 0 := k_get (index := 9) cK_2 d_H_areLinesLiterals_64 (by decide) ⟨"Miterhouse$Closed", Or.inl t_4_195, Or.inl rfl⟩
theorem s_H_areLinesLiterals_70 : kCall TT cl6 X mi_H_areLinesLiterals 70 3 mi_N_sourceLine 2 2 1 := k_virtual (index := 126) d_H_areLinesLiterals_70 cs_N_sourceLine rfl rfl t_1_227 t_1_161 t_1_162
theorem s_H_areLinesLiterals_74 : kCall TT cl6 X mi_H_areLinesLiterals 74 3 mi_V_heldWord 2 3 3 := k_virtual (index := 131) d_H_areLinesLiterals_74 cs_V_heldWord rfl rfl t_1_228 t_1_229 t_1_230
theorem s_H_areLinesLiterals_79 : kGet TT cl6 X mi_H_areLinesLiterals 79 2 11 := k_get (index := 83) cK_2 d_H_areLinesLiterals_79 (by decide) ⟨"Miterhouse$Closed", Or.inl t_4_210, Or.inl rfl⟩
theorem s_H_areLinesLiterals_84 : kCall TT cl6 X mi_H_areLinesLiterals 84 3 mi_M_putWord 4 3 0 := k_staticN (index := 135) d_H_areLinesLiterals_84 cs_M_putWord rfl t_1_232 t_1_233
theorem s_H_areLinesLiterals_97 : kGet TT cl6 X mi_H_areLinesLiterals 97 2 0 := k_get (index := 9) cK_2 d_H_areLinesLiterals_97 (by decide) ⟨"Miterhouse$Closed", Or.inl t_4_195, Or.inl rfl⟩
theorem s_H_areLinesLiterals_100 : kGet TT cl6 X mi_H_areLinesLiterals 100 1 11 := k_get (index := 139) cK_1 d_H_areLinesLiterals_100 (by decide) ⟨"Miterhouse$Nets", Or.inl t_1_60, Or.inl rfl⟩
theorem s_H_areLinesLiterals_108 : kGet TT cl6 X mi_H_areLinesLiterals 108 2 2 := k_get (index := 27) cK_2 d_H_areLinesLiterals_108 (by decide) ⟨"Miterhouse$Closed", Or.inl t_4_198, Or.inl rfl⟩
theorem s_H_areLinesLiterals_112 : kCall TT cl6 X mi_H_areLinesLiterals 112 3 mi_A_literalOf 2 2 4 := k_virtual (index := 142) d_H_areLinesLiterals_112 cs_A_literalOf rfl rfl t_1_235 t_1_236 t_1_237
theorem s_H_areLinesLiterals_115 : kCall TT cl6 X mi_H_areLinesLiterals 115 3 mi_H_literalWord 2 2 2 := k_virtual (index := 119) d_H_areLinesLiterals_115 cs_H_literalWord rfl rfl t_1_217 t_1_219 ts_9
theorem s_H_areLinesLiterals_119 : kGet TT cl6 X mi_H_areLinesLiterals 119 2 1 := k_get (index := 20) cK_2 d_H_areLinesLiterals_119 (by decide) ⟨"Miterhouse$Closed", Or.inl t_4_196, Or.inl rfl⟩
theorem s_H_areLinesLiterals_122 : kGet TT cl6 X mi_H_areLinesLiterals 122 3 3 := k_get (index := 145) cK_3 d_H_areLinesLiterals_122 (by decide) ⟨"Miterhouse$Values", Or.inl t_3_136, Or.inl rfl⟩
theorem s_H_areLinesLiterals_129 : kGet TT cl6 X mi_H_areLinesLiterals 129 2 1 := k_get (index := 20) cK_2 d_H_areLinesLiterals_129 (by decide) ⟨"Miterhouse$Closed", Or.inl t_4_196, Or.inl rfl⟩
theorem s_H_areLinesLiterals_134 : kCall TT cl6 X mi_H_areLinesLiterals 134 3 mi_V_heldWord 2 3 3 := k_virtual (index := 131) d_H_areLinesLiterals_134 cs_V_heldWord rfl rfl t_1_228 t_1_229 t_1_230
theorem d_H_fill_0 : decode mi_H_fill.2.1 0 = .ok (.aload_n 0, 1) := by decide +kernel
theorem d_H_fill_1 : decode mi_H_fill.2.1 1 = .ok (.getfield 20, 3) := by decide +kernel
theorem d_H_fill_4 : decode mi_H_fill.2.1 4 = .ok (.invokevirtual 87, 3) := by decide +kernel
theorem d_H_fill_7 : decode mi_H_fill.2.1 7 = .ok (.aload_n 0, 1) := by decide +kernel
theorem d_H_fill_8 : decode mi_H_fill.2.1 8 = .ok (.getfield 27, 3) := by decide +kernel
theorem d_H_fill_11 : decode mi_H_fill.2.1 11 = .ok (.invokevirtual 90, 3) := by decide +kernel
theorem d_H_fill_14 : decode mi_H_fill.2.1 14 = .ok (.return_, 1) := by decide +kernel
theorem s_H_fill_1 : kGet TT cl6 X mi_H_fill 1 2 1 := k_get (index := 20) cK_2 d_H_fill_1 (by decide) ⟨"Miterhouse$Closed", Or.inl t_4_196, Or.inl rfl⟩
theorem s_H_fill_4 : kCall TT cl6 X mi_H_fill 4 3 mi_V_fill 2 1 3 := k_virtual (index := 87) d_H_fill_4 cs_V_fill rfl rfl t_5_0 t_5_1 t_5_2
theorem s_H_fill_8 : kGet TT cl6 X mi_H_fill 8 2 2 := k_get (index := 27) cK_2 d_H_fill_8 (by decide) ⟨"Miterhouse$Closed", Or.inl t_4_198, Or.inl rfl⟩
theorem s_H_fill_11 : kCall TT cl6 X mi_H_fill 11 3 mi_A_fill 2 1 4 := k_virtual (index := 90) d_H_fill_11 cs_A_fill rfl rfl t_5_52 t_5_53 t_5_54
theorem d_H_holdsTogether_0 : decode mi_H_holdsTogether.2.1 0 = .ok (.aload_n 0, 1) := by decide +kernel
theorem d_H_holdsTogether_1 : decode mi_H_holdsTogether.2.1 1 = .ok (.getfield 79, 3) := by decide +kernel
theorem d_H_holdsTogether_4 : decode mi_H_holdsTogether.2.1 4 = .ok (.invokevirtual 91, 3) := by decide +kernel
theorem d_H_holdsTogether_7 : decode mi_H_holdsTogether.2.1 7 = .ok (.aload_n 0, 1) := by decide +kernel
theorem d_H_holdsTogether_8 : decode mi_H_holdsTogether.2.1 8 = .ok (.iconst (0), 1) := by decide +kernel
theorem d_H_holdsTogether_9 : decode mi_H_holdsTogether.2.1 9 = .ok (.invokevirtual 94, 3) := by decide +kernel
theorem d_H_holdsTogether_12 : decode mi_H_holdsTogether.2.1 12 = .ok (.ifCond .eq (43), 3) := by decide +kernel
theorem d_H_holdsTogether_15 : decode mi_H_holdsTogether.2.1 15 = .ok (.aload_n 0, 1) := by decide +kernel
theorem d_H_holdsTogether_16 : decode mi_H_holdsTogether.2.1 16 = .ok (.aload_n 0, 1) := by decide +kernel
theorem d_H_holdsTogether_17 : decode mi_H_holdsTogether.2.1 17 = .ok (.getfield 20, 3) := by decide +kernel
theorem d_H_holdsTogether_20 : decode mi_H_holdsTogether.2.1 20 = .ok (.getfield 98, 3) := by decide +kernel
theorem d_H_holdsTogether_23 : decode mi_H_holdsTogether.2.1 23 = .ok (.iconst (1), 1) := by decide +kernel
theorem d_H_holdsTogether_24 : decode mi_H_holdsTogether.2.1 24 = .ok (.isub, 1) := by decide +kernel
theorem d_H_holdsTogether_25 : decode mi_H_holdsTogether.2.1 25 = .ok (.invokevirtual 94, 3) := by decide +kernel
theorem d_H_holdsTogether_28 : decode mi_H_holdsTogether.2.1 28 = .ok (.ifCond .eq (27), 3) := by decide +kernel
theorem d_H_holdsTogether_31 : decode mi_H_holdsTogether.2.1 31 = .ok (.aload_n 0, 1) := by decide +kernel
theorem d_H_holdsTogether_32 : decode mi_H_holdsTogether.2.1 32 = .ok (.getfield 36, 3) := by decide +kernel
theorem d_H_holdsTogether_35 : decode mi_H_holdsTogether.2.1 35 = .ok (.invokevirtual 102, 3) := by decide +kernel
theorem d_H_holdsTogether_38 : decode mi_H_holdsTogether.2.1 38 = .ok (.ifCond .eq (17), 3) := by decide +kernel
theorem d_H_holdsTogether_41 : decode mi_H_holdsTogether.2.1 41 = .ok (.aload_n 0, 1) := by decide +kernel
theorem d_H_holdsTogether_42 : decode mi_H_holdsTogether.2.1 42 = .ok (.getfield 79, 3) := by decide +kernel
theorem d_H_holdsTogether_45 : decode mi_H_holdsTogether.2.1 45 = .ok (.invokevirtual 106, 3) := by decide +kernel
theorem d_H_holdsTogether_48 : decode mi_H_holdsTogether.2.1 48 = .ok (.ifCond .eq (7), 3) := by decide +kernel
theorem d_H_holdsTogether_51 : decode mi_H_holdsTogether.2.1 51 = .ok (.iconst (1), 1) := by decide +kernel
theorem d_H_holdsTogether_52 : decode mi_H_holdsTogether.2.1 52 = .ok (.goto (4), 3) := by decide +kernel
theorem d_H_holdsTogether_55 : decode mi_H_holdsTogether.2.1 55 = .ok (.iconst (0), 1) := by decide +kernel
theorem d_H_holdsTogether_56 : decode mi_H_holdsTogether.2.1 56 = .ok (.ireturn, 1) := by decide +kernel
theorem s_H_holdsTogether_1 : kGet TT cl6 X mi_H_holdsTogether 1 2 10 := k_get (index := 79) cK_2 d_H_holdsTogether_1 (by decide) ⟨"Miterhouse$Closed", Or.inl t_4_208, Or.inl rfl⟩
theorem s_H_holdsTogether_4 : kCall TT cl6 X mi_H_holdsTogether 4 3 mi_T_search 2 1 6 := k_virtual (index := 91) d_H_holdsTogether_4 cs_T_search rfl rfl t_1_120 t_1_121 t_1_122
theorem s_H_holdsTogether_9 : kCall TT cl6 X mi_H_holdsTogether 9 3 mi_H_areLinesLiterals 2 2 2 := k_virtual (index := 94) d_H_holdsTogether_9 cs_H_areLinesLiterals rfl rfl t_1_203 t_1_205 ts_8
theorem s_H_holdsTogether_17 : kGet TT cl6 X mi_H_holdsTogether 17 2 1 := k_get (index := 20) cK_2 d_H_holdsTogether_17 (by decide) ⟨"Miterhouse$Closed", Or.inl t_4_196, Or.inl rfl⟩
theorem s_H_holdsTogether_20 : kGet TT cl6 X mi_H_holdsTogether 20 3 2 := k_get (index := 98) cK_3 d_H_holdsTogether_20 (by decide) ⟨"Miterhouse$Values", Or.inl t_3_133, Or.inl rfl⟩
theorem s_H_holdsTogether_25 : kCall TT cl6 X mi_H_holdsTogether 25 3 mi_H_areLinesLiterals 2 2 2 := k_virtual (index := 94) d_H_holdsTogether_25 cs_H_areLinesLiterals rfl rfl t_1_203 t_1_205 ts_8
theorem s_H_holdsTogether_32 : kGet TT cl6 X mi_H_holdsTogether 32 2 3 := k_get (index := 36) cK_2 d_H_holdsTogether_32 (by decide) ⟨"Miterhouse$Closed", Or.inl t_4_200, Or.inl rfl⟩
theorem s_H_holdsTogether_35 : kCall TT cl6 X mi_H_holdsTogether 35 3 mi_S_isRight 2 1 5 := k_virtual (index := 102) d_H_holdsTogether_35 cs_S_isRight rfl rfl t_1_239 t_2_0 t_2_1
theorem s_H_holdsTogether_42 : kGet TT cl6 X mi_H_holdsTogether 42 2 10 := k_get (index := 79) cK_2 d_H_holdsTogether_42 (by decide) ⟨"Miterhouse$Closed", Or.inl t_4_208, Or.inl rfl⟩
theorem s_H_holdsTogether_45 : kCall TT cl6 X mi_H_holdsTogether 45 3 mi_T_isTraceRight 2 1 6 := k_virtual (index := 106) d_H_holdsTogether_45 cs_T_isTraceRight rfl rfl t_2_58 t_2_59 t_2_60
theorem d_H_literalWord_0 : decode mi_H_literalWord.2.1 0 = .ok (.aload_n 0, 1) := by decide +kernel
theorem d_H_literalWord_1 : decode mi_H_literalWord.2.1 1 = .ok (.getfield 83, 3) := by decide +kernel
theorem d_H_literalWord_4 : decode mi_H_literalWord.2.1 4 = .ok (.iload_n 1, 1) := by decide +kernel
theorem d_H_literalWord_5 : decode mi_H_literalWord.2.1 5 = .ok (.iconst (1), 1) := by decide +kernel
theorem d_H_literalWord_6 : decode mi_H_literalWord.2.1 6 = .ok (.ishr, 1) := by decide +kernel
theorem d_H_literalWord_7 : decode mi_H_literalWord.2.1 7 = .ok (.invokestatic 149, 3) := by decide +kernel
theorem d_H_literalWord_10 : decode mi_H_literalWord.2.1 10 = .ok (.lstore_n 2, 1) := by decide +kernel
theorem d_H_literalWord_11 : decode mi_H_literalWord.2.1 11 = .ok (.iload_n 1, 1) := by decide +kernel
theorem d_H_literalWord_12 : decode mi_H_literalWord.2.1 12 = .ok (.iconst (1), 1) := by decide +kernel
theorem d_H_literalWord_13 : decode mi_H_literalWord.2.1 13 = .ok (.iand, 1) := by decide +kernel
theorem d_H_literalWord_14 : decode mi_H_literalWord.2.1 14 = .ok (.iconst (1), 1) := by decide +kernel
theorem d_H_literalWord_15 : decode mi_H_literalWord.2.1 15 = .ok (.if_icmp .ne (11), 3) := by decide +kernel
theorem d_H_literalWord_18 : decode mi_H_literalWord.2.1 18 = .ok (.lload_n 2, 1) := by decide +kernel
theorem d_H_literalWord_19 : decode mi_H_literalWord.2.1 19 = .ok (.ldc2_w 153, 3) := by decide +kernel
theorem d_H_literalWord_22 : decode mi_H_literalWord.2.1 22 = .ok (.lxor, 1) := by decide +kernel
theorem d_H_literalWord_23 : decode mi_H_literalWord.2.1 23 = .ok (.goto (4), 3) := by decide +kernel
theorem d_H_literalWord_26 : decode mi_H_literalWord.2.1 26 = .ok (.lload_n 2, 1) := by decide +kernel
theorem d_H_literalWord_27 : decode mi_H_literalWord.2.1 27 = .ok (.lreturn, 1) := by decide +kernel
theorem s_H_literalWord_1 : kGet TT cl6 X mi_H_literalWord 1 2 11 := k_get (index := 83) cK_2 d_H_literalWord_1 (by decide) ⟨"Miterhouse$Closed", Or.inl t_4_210, Or.inl rfl⟩
theorem s_H_literalWord_7 : kCall TT cl6 X mi_H_literalWord 7 3 mi_M_wordAt 4 2 0 := k_staticN (index := 149) d_H_literalWord_7 cs_M_wordAt rfl t_1_221 t_1_154
theorem s_H_literalWord_19 : kPush TT cl6 X mi_H_literalWord 19 3 (.long (Int64.ofInt (-1))) := k_ldc2 (index := 153) d_H_literalWord_19 t_1_222
theorem d_W_ands_0 : decode mi_W_ands.2.1 0 = .ok (.aload_n 0, 1) := by decide +kernel
theorem d_W_ands_1 : decode mi_W_ands.2.1 1 = .ok (.invokevirtual 55, 3) := by decide +kernel
theorem d_W_ands_4 : decode mi_W_ands.2.1 4 = .ok (.ireturn, 1) := by decide +kernel
theorem d_W_ands_5 : decode mi_W_ands.2.1 5 = .ok (.astore_n 1, 1) := by decide +kernel
theorem d_W_ands_6 : decode mi_W_ands.2.1 6 = .ok (.ldc 17, 2) := by decide +kernel
theorem d_W_ands_8 : decode mi_W_ands.2.1 8 = .ok (.ireturn, 1) := by decide +kernel
theorem s_W_ands_1 : kCall TT cl6 X mi_W_ands 1 3 mi_M_ands 2 1 0 := k_virtual (index := 55) d_W_ands_1 cs_M_ands rfl rfl t_5_141 t_5_142 t_5_143
theorem s_W_ands_6 : kPush TT cl6 X mi_W_ands 6 2 (.int (Int32.ofInt (-900001))) := k_ldc (index := 17) d_W_ands_6 t_2_221
theorem d_W_cell_0 : decode mi_W_cell.2.1 0 = .ok (.aload_n 0, 1) := by decide +kernel
theorem d_W_cell_1 : decode mi_W_cell.2.1 1 = .ok (.iload_n 1, 1) := by decide +kernel
theorem d_W_cell_2 : decode mi_W_cell.2.1 2 = .ok (.iload_n 2, 1) := by decide +kernel
theorem d_W_cell_3 : decode mi_W_cell.2.1 3 = .ok (.iload_n 3, 1) := by decide +kernel
theorem d_W_cell_4 : decode mi_W_cell.2.1 4 = .ok (.invokevirtual 21, 3) := by decide +kernel
theorem d_W_cell_7 : decode mi_W_cell.2.1 7 = .ok (.ireturn, 1) := by decide +kernel
theorem d_W_cell_8 : decode mi_W_cell.2.1 8 = .ok (.astore 4, 2) := by decide +kernel
theorem d_W_cell_10 : decode mi_W_cell.2.1 10 = .ok (.ldc 17, 2) := by decide +kernel
theorem d_W_cell_12 : decode mi_W_cell.2.1 12 = .ok (.ireturn, 1) := by decide +kernel
theorem d_W_cell_13 : decode mi_W_cell.2.1 13 = .ok (.astore 4, 2) := by decide +kernel
theorem d_W_cell_15 : decode mi_W_cell.2.1 15 = .ok (.ldc 20, 2) := by decide +kernel
theorem d_W_cell_17 : decode mi_W_cell.2.1 17 = .ok (.ireturn, 1) := by decide +kernel
theorem d_W_cell_18 : decode mi_W_cell.2.1 18 = .ok (.astore 4, 2) := by decide +kernel
theorem d_W_cell_20 : decode mi_W_cell.2.1 20 = .ok (.ldc 27, 2) := by decide +kernel
theorem d_W_cell_22 : decode mi_W_cell.2.1 22 = .ok (.ireturn, 1) := by decide +kernel
theorem s_W_cell_4 : kCall TT cl6 X mi_W_cell 4 3 mi_M_cell 2 4 0 := k_virtual (index := 21) d_W_cell_4 cs_M_cell rfl rfl t_2_72 t_2_73 t_2_74
theorem s_W_cell_10 : kPush TT cl6 X mi_W_cell 10 2 (.int (Int32.ofInt (-900001))) := k_ldc (index := 17) d_W_cell_10 t_2_221
theorem s_W_cell_15 : kPush TT cl6 X mi_W_cell 15 2 (.int (Int32.ofInt (-900002))) := k_ldc (index := 20) d_W_cell_15 t_2_222
theorem s_W_cell_20 : kPush TT cl6 X mi_W_cell 20 2 (.int (Int32.ofInt (-900003))) := k_ldc (index := 27) d_W_cell_20 t_2_223
theorem d_W_hash_0 : decode mi_W_hash.2.1 0 = .ok (.ldc 7, 2) := by decide +kernel
theorem d_W_hash_2 : decode mi_W_hash.2.1 2 = .ok (.iload_n 1, 1) := by decide +kernel
theorem d_W_hash_3 : decode mi_W_hash.2.1 3 = .ok (.aload_n 0, 1) := by decide +kernel
theorem d_W_hash_4 : decode mi_W_hash.2.1 4 = .ok (.arraylength, 1) := by decide +kernel
theorem d_W_hash_5 : decode mi_W_hash.2.1 5 = .ok (.if_icmp .ge (9), 3) := by decide +kernel
theorem d_W_hash_8 : decode mi_W_hash.2.1 8 = .ok (.aload_n 0, 1) := by decide +kernel
theorem d_W_hash_9 : decode mi_W_hash.2.1 9 = .ok (.iload_n 1, 1) := by decide +kernel
theorem d_W_hash_10 : decode mi_W_hash.2.1 10 = .ok (.iaload, 1) := by decide +kernel
theorem d_W_hash_11 : decode mi_W_hash.2.1 11 = .ok (.goto (4), 3) := by decide +kernel
theorem d_W_hash_14 : decode mi_W_hash.2.1 14 = .ok (.iconst (0), 1) := by decide +kernel
theorem d_W_hash_15 : decode mi_W_hash.2.1 15 = .ok (.sipush (1009), 3) := by decide +kernel
theorem d_W_hash_18 : decode mi_W_hash.2.1 18 = .ok (.iload_n 1, 1) := by decide +kernel
theorem d_W_hash_19 : decode mi_W_hash.2.1 19 = .ok (.imul, 1) := by decide +kernel
theorem d_W_hash_20 : decode mi_W_hash.2.1 20 = .ok (.iadd, 1) := by decide +kernel
theorem d_W_hash_21 : decode mi_W_hash.2.1 21 = .ok (.imul, 1) := by decide +kernel
theorem d_W_hash_22 : decode mi_W_hash.2.1 22 = .ok (.sipush (12345), 3) := by decide +kernel
theorem d_W_hash_25 : decode mi_W_hash.2.1 25 = .ok (.iadd, 1) := by decide +kernel
theorem d_W_hash_26 : decode mi_W_hash.2.1 26 = .ok (.istore_n 2, 1) := by decide +kernel
theorem d_W_hash_27 : decode mi_W_hash.2.1 27 = .ok (.iload_n 2, 1) := by decide +kernel
theorem d_W_hash_28 : decode mi_W_hash.2.1 28 = .ok (.iload_n 2, 1) := by decide +kernel
theorem d_W_hash_29 : decode mi_W_hash.2.1 29 = .ok (.bipush (13), 2) := by decide +kernel
theorem d_W_hash_31 : decode mi_W_hash.2.1 31 = .ok (.iushr, 1) := by decide +kernel
theorem d_W_hash_32 : decode mi_W_hash.2.1 32 = .ok (.ixor, 1) := by decide +kernel
theorem d_W_hash_33 : decode mi_W_hash.2.1 33 = .ok (.ldc 8, 2) := by decide +kernel
theorem d_W_hash_35 : decode mi_W_hash.2.1 35 = .ok (.imul, 1) := by decide +kernel
theorem d_W_hash_36 : decode mi_W_hash.2.1 36 = .ok (.istore_n 2, 1) := by decide +kernel
theorem d_W_hash_37 : decode mi_W_hash.2.1 37 = .ok (.iload_n 2, 1) := by decide +kernel
theorem d_W_hash_38 : decode mi_W_hash.2.1 38 = .ok (.iload_n 2, 1) := by decide +kernel
theorem d_W_hash_39 : decode mi_W_hash.2.1 39 = .ok (.bipush (16), 2) := by decide +kernel
theorem d_W_hash_41 : decode mi_W_hash.2.1 41 = .ok (.iushr, 1) := by decide +kernel
theorem d_W_hash_42 : decode mi_W_hash.2.1 42 = .ok (.ixor, 1) := by decide +kernel
theorem d_W_hash_43 : decode mi_W_hash.2.1 43 = .ok (.ireturn, 1) := by decide +kernel
theorem s_W_hash_0 : kPush TT cl6 X mi_W_hash 0 2 (.int (Int32.ofInt (69069))) := k_ldc (index := 7) d_W_hash_0 t_6_70
theorem s_W_hash_33 : kPush TT cl6 X mi_W_hash 33 2 (.int (Int32.ofInt (1103515245))) := k_ldc (index := 8) d_W_hash_33 t_6_71
theorem d_W_close_0 : decode mi_W_close.2.1 0 = .ok (.aload_n 0, 1) := by decide +kernel
theorem d_W_close_1 : decode mi_W_close.2.1 1 = .ok (.invokevirtual 42, 3) := by decide +kernel
theorem d_W_close_4 : decode mi_W_close.2.1 4 = .ok (.ireturn, 1) := by decide +kernel
theorem d_W_close_5 : decode mi_W_close.2.1 5 = .ok (.astore_n 1, 1) := by decide +kernel
theorem d_W_close_6 : decode mi_W_close.2.1 6 = .ok (.ldc 17, 2) := by decide +kernel
theorem d_W_close_8 : decode mi_W_close.2.1 8 = .ok (.ireturn, 1) := by decide +kernel
theorem s_W_close_1 : kCall TT cl6 X mi_W_close 1 3 mi_M_close 2 1 0 := k_virtual (index := 42) d_W_close_1 cs_M_close rfl rfl t_3_87 t_3_88 t_3_89
theorem s_W_close_6 : kPush TT cl6 X mi_W_close 6 2 (.int (Int32.ofInt (-900001))) := k_ldc (index := 17) d_W_close_6 t_2_221
theorem d_W_constrain_0 : decode mi_W_constrain.2.1 0 = .ok (.aload_n 0, 1) := by decide +kernel
theorem d_W_constrain_1 : decode mi_W_constrain.2.1 1 = .ok (.iload_n 1, 1) := by decide +kernel
theorem d_W_constrain_2 : decode mi_W_constrain.2.1 2 = .ok (.invokevirtual 45, 3) := by decide +kernel
theorem d_W_constrain_5 : decode mi_W_constrain.2.1 5 = .ok (.ireturn, 1) := by decide +kernel
theorem d_W_constrain_6 : decode mi_W_constrain.2.1 6 = .ok (.astore_n 2, 1) := by decide +kernel
theorem d_W_constrain_7 : decode mi_W_constrain.2.1 7 = .ok (.ldc 17, 2) := by decide +kernel
theorem d_W_constrain_9 : decode mi_W_constrain.2.1 9 = .ok (.ireturn, 1) := by decide +kernel
theorem d_W_constrain_10 : decode mi_W_constrain.2.1 10 = .ok (.astore_n 2, 1) := by decide +kernel
theorem d_W_constrain_11 : decode mi_W_constrain.2.1 11 = .ok (.ldc 20, 2) := by decide +kernel
theorem d_W_constrain_13 : decode mi_W_constrain.2.1 13 = .ok (.ireturn, 1) := by decide +kernel
theorem d_W_constrain_14 : decode mi_W_constrain.2.1 14 = .ok (.astore_n 2, 1) := by decide +kernel
theorem d_W_constrain_15 : decode mi_W_constrain.2.1 15 = .ok (.ldc 27, 2) := by decide +kernel
theorem d_W_constrain_17 : decode mi_W_constrain.2.1 17 = .ok (.ireturn, 1) := by decide +kernel
theorem s_W_constrain_2 : kCall TT cl6 X mi_W_constrain 2 3 mi_M_constrain 2 2 0 := k_virtual (index := 45) d_W_constrain_2 cs_M_constrain rfl rfl t_5_84 t_5_85 t_5_86
theorem s_W_constrain_7 : kPush TT cl6 X mi_W_constrain 7 2 (.int (Int32.ofInt (-900001))) := k_ldc (index := 17) d_W_constrain_7 t_2_221
theorem s_W_constrain_11 : kPush TT cl6 X mi_W_constrain 11 2 (.int (Int32.ofInt (-900002))) := k_ldc (index := 20) d_W_constrain_11 t_2_222
theorem s_W_constrain_15 : kPush TT cl6 X mi_W_constrain 15 2 (.int (Int32.ofInt (-900003))) := k_ldc (index := 27) d_W_constrain_15 t_2_223
theorem d_W_data_0 : decode mi_W_data.2.1 0 = .ok (.aload_n 0, 1) := by decide +kernel
theorem d_W_data_1 : decode mi_W_data.2.1 1 = .ok (.iload_n 1, 1) := by decide +kernel
theorem d_W_data_2 : decode mi_W_data.2.1 2 = .ok (.iload_n 2, 1) := by decide +kernel
theorem d_W_data_3 : decode mi_W_data.2.1 3 = .ok (.invokevirtual 35, 3) := by decide +kernel
theorem d_W_data_6 : decode mi_W_data.2.1 6 = .ok (.ireturn, 1) := by decide +kernel
theorem d_W_data_7 : decode mi_W_data.2.1 7 = .ok (.astore_n 3, 1) := by decide +kernel
theorem d_W_data_8 : decode mi_W_data.2.1 8 = .ok (.ldc 17, 2) := by decide +kernel
theorem d_W_data_10 : decode mi_W_data.2.1 10 = .ok (.ireturn, 1) := by decide +kernel
theorem d_W_data_11 : decode mi_W_data.2.1 11 = .ok (.astore_n 3, 1) := by decide +kernel
theorem d_W_data_12 : decode mi_W_data.2.1 12 = .ok (.ldc 20, 2) := by decide +kernel
theorem d_W_data_14 : decode mi_W_data.2.1 14 = .ok (.ireturn, 1) := by decide +kernel
theorem s_W_data_3 : kCall TT cl6 X mi_W_data 3 3 mi_M_data 2 3 0 := k_virtual (index := 35) d_W_data_3 cs_M_data rfl rfl t_3_54 t_3_55 t_3_56
theorem s_W_data_8 : kPush TT cl6 X mi_W_data 8 2 (.int (Int32.ofInt (-900001))) := k_ldc (index := 17) d_W_data_8 t_2_221
theorem s_W_data_12 : kPush TT cl6 X mi_W_data 12 2 (.int (Int32.ofInt (-900002))) := k_ldc (index := 20) d_W_data_12 t_2_222
theorem d_W_difference_0 : decode mi_W_difference.2.1 0 = .ok (.aload_n 0, 1) := by decide +kernel
theorem d_W_difference_1 : decode mi_W_difference.2.1 1 = .ok (.invokevirtual 80, 3) := by decide +kernel
theorem d_W_difference_4 : decode mi_W_difference.2.1 4 = .ok (.ireturn, 1) := by decide +kernel
theorem d_W_difference_5 : decode mi_W_difference.2.1 5 = .ok (.astore_n 1, 1) := by decide +kernel
theorem d_W_difference_6 : decode mi_W_difference.2.1 6 = .ok (.ldc 17, 2) := by decide +kernel
theorem d_W_difference_8 : decode mi_W_difference.2.1 8 = .ok (.ireturn, 1) := by decide +kernel
theorem s_W_difference_1 : kCall TT cl6 X mi_W_difference 1 3 mi_M_difference 2 1 0 := k_virtual (index := 80) d_W_difference_1 cs_M_difference rfl rfl t_6_1 t_6_2 t_6_3
theorem s_W_difference_6 : kPush TT cl6 X mi_W_difference 6 2 (.int (Int32.ofInt (-900001))) := k_ldc (index := 17) d_W_difference_6 t_2_221
theorem d_W_gate_0 : decode mi_W_gate.2.1 0 = .ok (.aload_n 0, 1) := by decide +kernel
theorem d_W_gate_1 : decode mi_W_gate.2.1 1 = .ok (.iload_n 1, 1) := by decide +kernel
theorem d_W_gate_2 : decode mi_W_gate.2.1 2 = .ok (.iload_n 2, 1) := by decide +kernel
theorem d_W_gate_3 : decode mi_W_gate.2.1 3 = .ok (.iload_n 3, 1) := by decide +kernel
theorem d_W_gate_4 : decode mi_W_gate.2.1 4 = .ok (.iload 4, 2) := by decide +kernel
theorem d_W_gate_6 : decode mi_W_gate.2.1 6 = .ok (.invokevirtual 28, 3) := by decide +kernel
theorem d_W_gate_9 : decode mi_W_gate.2.1 9 = .ok (.ireturn, 1) := by decide +kernel
theorem d_W_gate_10 : decode mi_W_gate.2.1 10 = .ok (.astore 5, 2) := by decide +kernel
theorem d_W_gate_12 : decode mi_W_gate.2.1 12 = .ok (.ldc 17, 2) := by decide +kernel
theorem d_W_gate_14 : decode mi_W_gate.2.1 14 = .ok (.ireturn, 1) := by decide +kernel
theorem d_W_gate_15 : decode mi_W_gate.2.1 15 = .ok (.astore 5, 2) := by decide +kernel
theorem d_W_gate_17 : decode mi_W_gate.2.1 17 = .ok (.ldc 20, 2) := by decide +kernel
theorem d_W_gate_19 : decode mi_W_gate.2.1 19 = .ok (.ireturn, 1) := by decide +kernel
theorem d_W_gate_20 : decode mi_W_gate.2.1 20 = .ok (.astore 5, 2) := by decide +kernel
theorem d_W_gate_22 : decode mi_W_gate.2.1 22 = .ok (.ldc 27, 2) := by decide +kernel
theorem d_W_gate_24 : decode mi_W_gate.2.1 24 = .ok (.ireturn, 1) := by decide +kernel
theorem d_W_gate_25 : decode mi_W_gate.2.1 25 = .ok (.astore 5, 2) := by decide +kernel
theorem d_W_gate_27 : decode mi_W_gate.2.1 27 = .ok (.ldc 34, 2) := by decide +kernel
theorem d_W_gate_29 : decode mi_W_gate.2.1 29 = .ok (.ireturn, 1) := by decide +kernel
theorem s_W_gate_6 : kCall TT cl6 X mi_W_gate 6 3 mi_M_gate 2 5 0 := k_virtual (index := 28) d_W_gate_6 cs_M_gate rfl rfl t_3_11 t_3_12 t_3_13
theorem s_W_gate_12 : kPush TT cl6 X mi_W_gate 12 2 (.int (Int32.ofInt (-900001))) := k_ldc (index := 17) d_W_gate_12 t_2_221
theorem s_W_gate_17 : kPush TT cl6 X mi_W_gate 17 2 (.int (Int32.ofInt (-900002))) := k_ldc (index := 20) d_W_gate_17 t_2_222
theorem s_W_gate_22 : kPush TT cl6 X mi_W_gate 22 2 (.int (Int32.ofInt (-900003))) := k_ldc (index := 27) d_W_gate_22 t_2_223
theorem s_W_gate_27 : kPush TT cl6 X mi_W_gate 27 2 (.int (Int32.ofInt (-900004))) := k_ldc (index := 34) d_W_gate_27 t_3_50
theorem d_W_in_0 : decode mi_W_in.2.1 0 = .ok (.aload_n 0, 1) := by decide +kernel
theorem d_W_in_1 : decode mi_W_in.2.1 1 = .ok (.iload_n 1, 1) := by decide +kernel
theorem d_W_in_2 : decode mi_W_in.2.1 2 = .ok (.invokestatic 96, 3) := by decide +kernel
theorem d_W_in_5 : decode mi_W_in.2.1 5 = .ok (.ldc 101, 2) := by decide +kernel
theorem d_W_in_7 : decode mi_W_in.2.1 7 = .ok (.iand, 1) := by decide +kernel
theorem d_W_in_8 : decode mi_W_in.2.1 8 = .ok (.iload_n 2, 1) := by decide +kernel
theorem d_W_in_9 : decode mi_W_in.2.1 9 = .ok (.irem, 1) := by decide +kernel
theorem d_W_in_10 : decode mi_W_in.2.1 10 = .ok (.ireturn, 1) := by decide +kernel
theorem s_W_in_2 : kCall TT cl6 X mi_W_in 2 3 mi_W_hash 1 2 0 := k_static (index := 96) d_W_in_2 cs_W_hash t_6_67 t_6_68
theorem s_W_in_5 : kPush TT cl6 X mi_W_in 5 2 (.int (Int32.ofInt (2147483647))) := k_ldc (index := 101) d_W_in_5 t_6_72
theorem d_W_input_0 : decode mi_W_input.2.1 0 = .ok (.aload_n 0, 1) := by decide +kernel
theorem d_W_input_1 : decode mi_W_input.2.1 1 = .ok (.invokevirtual 9, 3) := by decide +kernel
theorem d_W_input_4 : decode mi_W_input.2.1 4 = .ok (.ireturn, 1) := by decide +kernel
theorem d_W_input_5 : decode mi_W_input.2.1 5 = .ok (.astore_n 1, 1) := by decide +kernel
theorem d_W_input_6 : decode mi_W_input.2.1 6 = .ok (.ldc 17, 2) := by decide +kernel
theorem d_W_input_8 : decode mi_W_input.2.1 8 = .ok (.ireturn, 1) := by decide +kernel
theorem d_W_input_9 : decode mi_W_input.2.1 9 = .ok (.astore_n 1, 1) := by decide +kernel
theorem d_W_input_10 : decode mi_W_input.2.1 10 = .ok (.ldc 20, 2) := by decide +kernel
theorem d_W_input_12 : decode mi_W_input.2.1 12 = .ok (.ireturn, 1) := by decide +kernel
theorem s_W_input_1 : kCall TT cl6 X mi_W_input 1 3 mi_M_input 2 1 0 := k_virtual (index := 9) d_W_input_1 cs_M_input rfl rfl t_6_128 t_6_129 t_6_130
theorem s_W_input_6 : kPush TT cl6 X mi_W_input 6 2 (.int (Int32.ofInt (-900001))) := k_ldc (index := 17) d_W_input_6 t_2_221
theorem s_W_input_10 : kPush TT cl6 X mi_W_input 10 2 (.int (Int32.ofInt (-900002))) := k_ldc (index := 20) d_W_input_10 t_2_222
theorem d_W_isBuilt_0 : decode mi_W_isBuilt.2.1 0 = .ok (.iconst (1), 1) := by decide +kernel
theorem d_W_isBuilt_1 : decode mi_W_isBuilt.2.1 1 = .ok (.istore 5, 2) := by decide +kernel
theorem d_W_isBuilt_3 : decode mi_W_isBuilt.2.1 3 = .ok (.iconst (0), 1) := by decide +kernel
theorem d_W_isBuilt_4 : decode mi_W_isBuilt.2.1 4 = .ok (.istore 6, 2) := by decide +kernel
theorem d_W_isBuilt_6 : decode mi_W_isBuilt.2.1 6 = .ok (.iconst (0), 1) := by decide +kernel
theorem d_W_isBuilt_7 : decode mi_W_isBuilt.2.1 7 = .ok (.istore 7, 2) := by decide +kernel
theorem d_W_isBuilt_9 : decode mi_W_isBuilt.2.1 9 = .ok (.iload 7, 2) := by decide +kernel
theorem d_W_isBuilt_11 : decode mi_W_isBuilt.2.1 11 = .ok (.aload_n 2, 1) := by decide +kernel
theorem d_W_isBuilt_12 : decode mi_W_isBuilt.2.1 12 = .ok (.arraylength, 1) := by decide +kernel
theorem d_W_isBuilt_13 : decode mi_W_isBuilt.2.1 13 = .ok (.if_icmp .ge (143), 3) := by decide +kernel
theorem d_W_isBuilt_16 : decode mi_W_isBuilt.2.1 16 = .ok (.aload_n 2, 1) := by decide +kernel
theorem d_W_isBuilt_17 : decode mi_W_isBuilt.2.1 17 = .ok (.iload 7, 2) := by decide +kernel
theorem d_W_isBuilt_19 : decode mi_W_isBuilt.2.1 19 = .ok (.aaload, 1) := by decide +kernel
theorem d_W_isBuilt_20 : decode mi_W_isBuilt.2.1 20 = .ok (.astore 8, 2) := by decide +kernel
theorem d_W_isBuilt_22 : decode mi_W_isBuilt.2.1 22 = .ok (.iload 6, 2) := by decide +kernel
theorem d_W_isBuilt_24 : decode mi_W_isBuilt.2.1 24 = .ok (.aload 8, 2) := by decide +kernel
theorem d_W_isBuilt_26 : decode mi_W_isBuilt.2.1 26 = .ok (.iconst (0), 1) := by decide +kernel
theorem d_W_isBuilt_27 : decode mi_W_isBuilt.2.1 27 = .ok (.iaload, 1) := by decide +kernel
theorem d_W_isBuilt_28 : decode mi_W_isBuilt.2.1 28 = .ok (.bipush (105), 2) := by decide +kernel
theorem d_W_isBuilt_30 : decode mi_W_isBuilt.2.1 30 = .ok (.if_icmp .eq (12), 3) := by decide +kernel
theorem d_W_isBuilt_33 : decode mi_W_isBuilt.2.1 33 = .ok (.aload 8, 2) := by decide +kernel
theorem d_W_isBuilt_35 : decode mi_W_isBuilt.2.1 35 = .ok (.iconst (0), 1) := by decide +kernel
theorem d_W_isBuilt_36 : decode mi_W_isBuilt.2.1 36 = .ok (.iaload, 1) := by decide +kernel
theorem d_W_isBuilt_37 : decode mi_W_isBuilt.2.1 37 = .ok (.bipush (99), 2) := by decide +kernel
theorem d_W_isBuilt_39 : decode mi_W_isBuilt.2.1 39 = .ok (.if_icmp .ne (7), 3) := by decide +kernel
theorem d_W_isBuilt_42 : decode mi_W_isBuilt.2.1 42 = .ok (.iconst (1), 1) := by decide +kernel
theorem d_W_isBuilt_43 : decode mi_W_isBuilt.2.1 43 = .ok (.goto (4), 3) := by decide +kernel
theorem d_W_isBuilt_46 : decode mi_W_isBuilt.2.1 46 = .ok (.iconst (0), 1) := by decide +kernel
theorem d_W_isBuilt_47 : decode mi_W_isBuilt.2.1 47 = .ok (.iadd, 1) := by decide +kernel
theorem d_W_isBuilt_48 : decode mi_W_isBuilt.2.1 48 = .ok (.istore 6, 2) := by decide +kernel
theorem d_W_isBuilt_50 : decode mi_W_isBuilt.2.1 50 = .ok (.iload 5, 2) := by decide +kernel
theorem d_W_isBuilt_52 : decode mi_W_isBuilt.2.1 52 = .ok (.aload 8, 2) := by decide +kernel
theorem d_W_isBuilt_54 : decode mi_W_isBuilt.2.1 54 = .ok (.iconst (0), 1) := by decide +kernel
theorem d_W_isBuilt_55 : decode mi_W_isBuilt.2.1 55 = .ok (.iaload, 1) := by decide +kernel
theorem d_W_isBuilt_56 : decode mi_W_isBuilt.2.1 56 = .ok (.bipush (105), 2) := by decide +kernel
theorem d_W_isBuilt_58 : decode mi_W_isBuilt.2.1 58 = .ok (.if_icmp .ne (20), 3) := by decide +kernel
theorem d_W_isBuilt_61 : decode mi_W_isBuilt.2.1 61 = .ok (.aload_n 0, 1) := by decide +kernel
theorem d_W_isBuilt_62 : decode mi_W_isBuilt.2.1 62 = .ok (.invokestatic 120, 3) := by decide +kernel
theorem d_W_isBuilt_65 : decode mi_W_isBuilt.2.1 65 = .ok (.iload 7, 2) := by decide +kernel
theorem d_W_isBuilt_67 : decode mi_W_isBuilt.2.1 67 = .ok (.if_icmp .ne (7), 3) := by decide +kernel
theorem d_W_isBuilt_70 : decode mi_W_isBuilt.2.1 70 = .ok (.iconst (1), 1) := by decide +kernel
theorem d_W_isBuilt_71 : decode mi_W_isBuilt.2.1 71 = .ok (.goto (76), 3) := by decide +kernel
theorem d_W_isBuilt_74 : decode mi_W_isBuilt.2.1 74 = .ok (.iconst (0), 1) := by decide +kernel
theorem d_W_isBuilt_75 : decode mi_W_isBuilt.2.1 75 = .ok (.goto (72), 3) := by decide +kernel
theorem d_W_isBuilt_78 : decode mi_W_isBuilt.2.1 78 = .ok (.aload 8, 2) := by decide +kernel
theorem d_W_isBuilt_80 : decode mi_W_isBuilt.2.1 80 = .ok (.iconst (0), 1) := by decide +kernel
theorem d_W_isBuilt_81 : decode mi_W_isBuilt.2.1 81 = .ok (.iaload, 1) := by decide +kernel
theorem d_W_isBuilt_82 : decode mi_W_isBuilt.2.1 82 = .ok (.bipush (99), 2) := by decide +kernel
theorem d_W_isBuilt_84 : decode mi_W_isBuilt.2.1 84 = .ok (.if_icmp .ne (32), 3) := by decide +kernel
theorem d_W_isBuilt_87 : decode mi_W_isBuilt.2.1 87 = .ok (.aload_n 0, 1) := by decide +kernel
theorem d_W_isBuilt_88 : decode mi_W_isBuilt.2.1 88 = .ok (.aload 8, 2) := by decide +kernel
theorem d_W_isBuilt_90 : decode mi_W_isBuilt.2.1 90 = .ok (.iconst (1), 1) := by decide +kernel
theorem d_W_isBuilt_91 : decode mi_W_isBuilt.2.1 91 = .ok (.iaload, 1) := by decide +kernel
theorem d_W_isBuilt_92 : decode mi_W_isBuilt.2.1 92 = .ok (.aload 8, 2) := by decide +kernel
theorem d_W_isBuilt_94 : decode mi_W_isBuilt.2.1 94 = .ok (.iconst (2), 1) := by decide +kernel
theorem d_W_isBuilt_95 : decode mi_W_isBuilt.2.1 95 = .ok (.iaload, 1) := by decide +kernel
theorem d_W_isBuilt_96 : decode mi_W_isBuilt.2.1 96 = .ok (.aload 8, 2) := by decide +kernel
theorem d_W_isBuilt_98 : decode mi_W_isBuilt.2.1 98 = .ok (.iconst (3), 1) := by decide +kernel
theorem d_W_isBuilt_99 : decode mi_W_isBuilt.2.1 99 = .ok (.iaload, 1) := by decide +kernel
theorem d_W_isBuilt_100 : decode mi_W_isBuilt.2.1 100 = .ok (.invokestatic 123, 3) := by decide +kernel
theorem d_W_isBuilt_103 : decode mi_W_isBuilt.2.1 103 = .ok (.iload 7, 2) := by decide +kernel
theorem d_W_isBuilt_105 : decode mi_W_isBuilt.2.1 105 = .ok (.if_icmp .ne (7), 3) := by decide +kernel
theorem d_W_isBuilt_108 : decode mi_W_isBuilt.2.1 108 = .ok (.iconst (1), 1) := by decide +kernel
theorem d_W_isBuilt_109 : decode mi_W_isBuilt.2.1 109 = .ok (.goto (38), 3) := by decide +kernel
theorem d_W_isBuilt_112 : decode mi_W_isBuilt.2.1 112 = .ok (.iconst (0), 1) := by decide +kernel
theorem d_W_isBuilt_113 : decode mi_W_isBuilt.2.1 113 = .ok (.goto (34), 3) := by decide +kernel
theorem d_W_isBuilt_116 : decode mi_W_isBuilt.2.1 116 = .ok (.aload_n 0, 1) := by decide +kernel
theorem d_W_isBuilt_117 : decode mi_W_isBuilt.2.1 117 = .ok (.aload 8, 2) := by decide +kernel
theorem d_W_isBuilt_119 : decode mi_W_isBuilt.2.1 119 = .ok (.iconst (1), 1) := by decide +kernel
theorem d_W_isBuilt_120 : decode mi_W_isBuilt.2.1 120 = .ok (.iaload, 1) := by decide +kernel
theorem d_W_isBuilt_121 : decode mi_W_isBuilt.2.1 121 = .ok (.aload 8, 2) := by decide +kernel
theorem d_W_isBuilt_123 : decode mi_W_isBuilt.2.1 123 = .ok (.iconst (0), 1) := by decide +kernel
theorem d_W_isBuilt_124 : decode mi_W_isBuilt.2.1 124 = .ok (.iaload, 1) := by decide +kernel
theorem d_W_isBuilt_125 : decode mi_W_isBuilt.2.1 125 = .ok (.i2c, 1) := by decide +kernel
theorem d_W_isBuilt_126 : decode mi_W_isBuilt.2.1 126 = .ok (.aload 8, 2) := by decide +kernel
theorem d_W_isBuilt_128 : decode mi_W_isBuilt.2.1 128 = .ok (.iconst (2), 1) := by decide +kernel
theorem d_W_isBuilt_129 : decode mi_W_isBuilt.2.1 129 = .ok (.iaload, 1) := by decide +kernel
theorem d_W_isBuilt_130 : decode mi_W_isBuilt.2.1 130 = .ok (.aload 8, 2) := by decide +kernel
theorem d_W_isBuilt_132 : decode mi_W_isBuilt.2.1 132 = .ok (.iconst (3), 1) := by decide +kernel
theorem d_W_isBuilt_133 : decode mi_W_isBuilt.2.1 133 = .ok (.iaload, 1) := by decide +kernel
theorem d_W_isBuilt_134 : decode mi_W_isBuilt.2.1 134 = .ok (.invokestatic 126, 3) := by decide +kernel
theorem d_W_isBuilt_137 : decode mi_W_isBuilt.2.1 137 = .ok (.iload 7, 2) := by decide +kernel
theorem d_W_isBuilt_139 : decode mi_W_isBuilt.2.1 139 = .ok (.if_icmp .ne (7), 3) := by decide +kernel
theorem d_W_isBuilt_142 : decode mi_W_isBuilt.2.1 142 = .ok (.iconst (1), 1) := by decide +kernel
theorem d_W_isBuilt_143 : decode mi_W_isBuilt.2.1 143 = .ok (.goto (4), 3) := by decide +kernel
theorem d_W_isBuilt_146 : decode mi_W_isBuilt.2.1 146 = .ok (.iconst (0), 1) := by decide +kernel
theorem d_W_isBuilt_147 : decode mi_W_isBuilt.2.1 147 = .ok (.iand, 1) := by decide +kernel
theorem d_W_isBuilt_148 : decode mi_W_isBuilt.2.1 148 = .ok (.istore 5, 2) := by decide +kernel
theorem d_W_isBuilt_150 : decode mi_W_isBuilt.2.1 150 = .ok (.iinc 7 (1), 3) := by decide +kernel
theorem d_W_isBuilt_153 : decode mi_W_isBuilt.2.1 153 = .ok (.goto (-144), 3) := by decide +kernel
theorem d_W_isBuilt_156 : decode mi_W_isBuilt.2.1 156 = .ok (.iconst (0), 1) := by decide +kernel
theorem d_W_isBuilt_157 : decode mi_W_isBuilt.2.1 157 = .ok (.istore 7, 2) := by decide +kernel
theorem d_W_isBuilt_159 : decode mi_W_isBuilt.2.1 159 = .ok (.iload 7, 2) := by decide +kernel
theorem d_W_isBuilt_161 : decode mi_W_isBuilt.2.1 161 = .ok (.aload_n 2, 1) := by decide +kernel
theorem d_W_isBuilt_162 : decode mi_W_isBuilt.2.1 162 = .ok (.arraylength, 1) := by decide +kernel
theorem d_W_isBuilt_163 : decode mi_W_isBuilt.2.1 163 = .ok (.if_icmp .ge (82), 3) := by decide +kernel
theorem d_W_isBuilt_166 : decode mi_W_isBuilt.2.1 166 = .ok (.aload_n 2, 1) := by decide +kernel
theorem d_W_isBuilt_167 : decode mi_W_isBuilt.2.1 167 = .ok (.iload 7, 2) := by decide +kernel
theorem d_W_isBuilt_169 : decode mi_W_isBuilt.2.1 169 = .ok (.aaload, 1) := by decide +kernel
theorem d_W_isBuilt_170 : decode mi_W_isBuilt.2.1 170 = .ok (.iconst (0), 1) := by decide +kernel
theorem d_W_isBuilt_171 : decode mi_W_isBuilt.2.1 171 = .ok (.iaload, 1) := by decide +kernel
theorem d_W_isBuilt_172 : decode mi_W_isBuilt.2.1 172 = .ok (.bipush (99), 2) := by decide +kernel
theorem d_W_isBuilt_174 : decode mi_W_isBuilt.2.1 174 = .ok (.if_icmp .ne (65), 3) := by decide +kernel
theorem d_W_isBuilt_177 : decode mi_W_isBuilt.2.1 177 = .ok (.aload_n 3, 1) := by decide +kernel
theorem d_W_isBuilt_178 : decode mi_W_isBuilt.2.1 178 = .ok (.iload 7, 2) := by decide +kernel
theorem d_W_isBuilt_180 : decode mi_W_isBuilt.2.1 180 = .ok (.aload_n 2, 1) := by decide +kernel
theorem d_W_isBuilt_181 : decode mi_W_isBuilt.2.1 181 = .ok (.aload_n 2, 1) := by decide +kernel
theorem d_W_isBuilt_182 : decode mi_W_isBuilt.2.1 182 = .ok (.arraylength, 1) := by decide +kernel
theorem d_W_isBuilt_183 : decode mi_W_isBuilt.2.1 183 = .ok (.aload_n 2, 1) := by decide +kernel
theorem d_W_isBuilt_184 : decode mi_W_isBuilt.2.1 184 = .ok (.iload 7, 2) := by decide +kernel
theorem d_W_isBuilt_186 : decode mi_W_isBuilt.2.1 186 = .ok (.aaload, 1) := by decide +kernel
theorem d_W_isBuilt_187 : decode mi_W_isBuilt.2.1 187 = .ok (.iconst (1), 1) := by decide +kernel
theorem d_W_isBuilt_188 : decode mi_W_isBuilt.2.1 188 = .ok (.iaload, 1) := by decide +kernel
theorem d_W_isBuilt_189 : decode mi_W_isBuilt.2.1 189 = .ok (.aload_n 1, 1) := by decide +kernel
theorem d_W_isBuilt_190 : decode mi_W_isBuilt.2.1 190 = .ok (.sipush (300), 3) := by decide +kernel
theorem d_W_isBuilt_193 : decode mi_W_isBuilt.2.1 193 = .ok (.iload 7, 2) := by decide +kernel
theorem d_W_isBuilt_195 : decode mi_W_isBuilt.2.1 195 = .ok (.iadd, 1) := by decide +kernel
theorem d_W_isBuilt_196 : decode mi_W_isBuilt.2.1 196 = .ok (.sipush (1000), 3) := by decide +kernel
theorem d_W_isBuilt_199 : decode mi_W_isBuilt.2.1 199 = .ok (.invokestatic 104, 3) := by decide +kernel
theorem d_W_isBuilt_202 : decode mi_W_isBuilt.2.1 202 = .ok (.invokestatic 116, 3) := by decide +kernel
theorem d_W_isBuilt_205 : decode mi_W_isBuilt.2.1 205 = .ok (.iastore, 1) := by decide +kernel
theorem d_W_isBuilt_206 : decode mi_W_isBuilt.2.1 206 = .ok (.iload 5, 2) := by decide +kernel
theorem d_W_isBuilt_208 : decode mi_W_isBuilt.2.1 208 = .ok (.aload_n 0, 1) := by decide +kernel
theorem d_W_isBuilt_209 : decode mi_W_isBuilt.2.1 209 = .ok (.invokestatic 129, 3) := by decide +kernel
theorem d_W_isBuilt_212 : decode mi_W_isBuilt.2.1 212 = .ok (.ldc 17, 2) := by decide +kernel
theorem d_W_isBuilt_214 : decode mi_W_isBuilt.2.1 214 = .ok (.if_icmp .ne (21), 3) := by decide +kernel
theorem d_W_isBuilt_217 : decode mi_W_isBuilt.2.1 217 = .ok (.aload_n 0, 1) := by decide +kernel
theorem d_W_isBuilt_218 : decode mi_W_isBuilt.2.1 218 = .ok (.iload 7, 2) := by decide +kernel
theorem d_W_isBuilt_220 : decode mi_W_isBuilt.2.1 220 = .ok (.aload_n 3, 1) := by decide +kernel
theorem d_W_isBuilt_221 : decode mi_W_isBuilt.2.1 221 = .ok (.iload 7, 2) := by decide +kernel
theorem d_W_isBuilt_223 : decode mi_W_isBuilt.2.1 223 = .ok (.iaload, 1) := by decide +kernel
theorem d_W_isBuilt_224 : decode mi_W_isBuilt.2.1 224 = .ok (.invokestatic 131, 3) := by decide +kernel
theorem d_W_isBuilt_227 : decode mi_W_isBuilt.2.1 227 = .ok (.iconst (-1), 1) := by decide +kernel
theorem d_W_isBuilt_228 : decode mi_W_isBuilt.2.1 228 = .ok (.if_icmp .ne (7), 3) := by decide +kernel
theorem d_W_isBuilt_231 : decode mi_W_isBuilt.2.1 231 = .ok (.iconst (1), 1) := by decide +kernel
theorem d_W_isBuilt_232 : decode mi_W_isBuilt.2.1 232 = .ok (.goto (4), 3) := by decide +kernel
theorem d_W_isBuilt_235 : decode mi_W_isBuilt.2.1 235 = .ok (.iconst (0), 1) := by decide +kernel
theorem d_W_isBuilt_236 : decode mi_W_isBuilt.2.1 236 = .ok (.iand, 1) := by decide +kernel
theorem d_W_isBuilt_237 : decode mi_W_isBuilt.2.1 237 = .ok (.istore 5, 2) := by decide +kernel
theorem d_W_isBuilt_239 : decode mi_W_isBuilt.2.1 239 = .ok (.iinc 7 (1), 3) := by decide +kernel
theorem d_W_isBuilt_242 : decode mi_W_isBuilt.2.1 242 = .ok (.goto (-83), 3) := by decide +kernel
theorem d_W_isBuilt_245 : decode mi_W_isBuilt.2.1 245 = .ok (.iconst (0), 1) := by decide +kernel
theorem d_W_isBuilt_246 : decode mi_W_isBuilt.2.1 246 = .ok (.istore 7, 2) := by decide +kernel
theorem d_W_isBuilt_248 : decode mi_W_isBuilt.2.1 248 = .ok (.iload 7, 2) := by decide +kernel
theorem d_W_isBuilt_250 : decode mi_W_isBuilt.2.1 250 = .ok (.iconst (2), 1) := by decide +kernel
theorem d_W_isBuilt_251 : decode mi_W_isBuilt.2.1 251 = .ok (.if_icmp .ge (92), 3) := by decide +kernel
theorem d_W_isBuilt_254 : decode mi_W_isBuilt.2.1 254 = .ok (.iconst (0), 1) := by decide +kernel
theorem d_W_isBuilt_255 : decode mi_W_isBuilt.2.1 255 = .ok (.istore 8, 2) := by decide +kernel
theorem d_W_isBuilt_257 : decode mi_W_isBuilt.2.1 257 = .ok (.iload 8, 2) := by decide +kernel
theorem d_W_isBuilt_259 : decode mi_W_isBuilt.2.1 259 = .ok (.aload 4, 2) := by decide +kernel
theorem d_W_isBuilt_261 : decode mi_W_isBuilt.2.1 261 = .ok (.iload 7, 2) := by decide +kernel
theorem d_W_isBuilt_263 : decode mi_W_isBuilt.2.1 263 = .ok (.aaload, 1) := by decide +kernel
theorem d_W_isBuilt_264 : decode mi_W_isBuilt.2.1 264 = .ok (.arraylength, 1) := by decide +kernel
theorem d_W_isBuilt_265 : decode mi_W_isBuilt.2.1 265 = .ok (.if_icmp .ge (72), 3) := by decide +kernel
theorem d_W_isBuilt_268 : decode mi_W_isBuilt.2.1 268 = .ok (.aload 4, 2) := by decide +kernel
theorem d_W_isBuilt_270 : decode mi_W_isBuilt.2.1 270 = .ok (.iload 7, 2) := by decide +kernel
theorem d_W_isBuilt_272 : decode mi_W_isBuilt.2.1 272 = .ok (.aaload, 1) := by decide +kernel
theorem d_W_isBuilt_273 : decode mi_W_isBuilt.2.1 273 = .ok (.iload 8, 2) := by decide +kernel
theorem d_W_isBuilt_275 : decode mi_W_isBuilt.2.1 275 = .ok (.aload_n 2, 1) := by decide +kernel
theorem d_W_isBuilt_276 : decode mi_W_isBuilt.2.1 276 = .ok (.aload_n 2, 1) := by decide +kernel
theorem d_W_isBuilt_277 : decode mi_W_isBuilt.2.1 277 = .ok (.arraylength, 1) := by decide +kernel
theorem d_W_isBuilt_278 : decode mi_W_isBuilt.2.1 278 = .ok (.iload 7, 2) := by decide +kernel
theorem d_W_isBuilt_280 : decode mi_W_isBuilt.2.1 280 = .ok (.aload_n 1, 1) := by decide +kernel
theorem d_W_isBuilt_281 : decode mi_W_isBuilt.2.1 281 = .ok (.sipush (320), 3) := by decide +kernel
theorem d_W_isBuilt_284 : decode mi_W_isBuilt.2.1 284 = .ok (.iconst (4), 1) := by decide +kernel
theorem d_W_isBuilt_285 : decode mi_W_isBuilt.2.1 285 = .ok (.iload 7, 2) := by decide +kernel
theorem d_W_isBuilt_287 : decode mi_W_isBuilt.2.1 287 = .ok (.imul, 1) := by decide +kernel
theorem d_W_isBuilt_288 : decode mi_W_isBuilt.2.1 288 = .ok (.iadd, 1) := by decide +kernel
theorem d_W_isBuilt_289 : decode mi_W_isBuilt.2.1 289 = .ok (.iload 8, 2) := by decide +kernel
theorem d_W_isBuilt_291 : decode mi_W_isBuilt.2.1 291 = .ok (.iadd, 1) := by decide +kernel
theorem d_W_isBuilt_292 : decode mi_W_isBuilt.2.1 292 = .ok (.sipush (1000), 3) := by decide +kernel
theorem d_W_isBuilt_295 : decode mi_W_isBuilt.2.1 295 = .ok (.invokestatic 104, 3) := by decide +kernel
theorem d_W_isBuilt_298 : decode mi_W_isBuilt.2.1 298 = .ok (.invokestatic 116, 3) := by decide +kernel
theorem d_W_isBuilt_301 : decode mi_W_isBuilt.2.1 301 = .ok (.iastore, 1) := by decide +kernel
theorem d_W_isBuilt_302 : decode mi_W_isBuilt.2.1 302 = .ok (.iload 5, 2) := by decide +kernel
theorem d_W_isBuilt_304 : decode mi_W_isBuilt.2.1 304 = .ok (.aload_n 0, 1) := by decide +kernel
theorem d_W_isBuilt_305 : decode mi_W_isBuilt.2.1 305 = .ok (.iload 7, 2) := by decide +kernel
theorem d_W_isBuilt_307 : decode mi_W_isBuilt.2.1 307 = .ok (.aload 4, 2) := by decide +kernel
theorem d_W_isBuilt_309 : decode mi_W_isBuilt.2.1 309 = .ok (.iload 7, 2) := by decide +kernel
theorem d_W_isBuilt_311 : decode mi_W_isBuilt.2.1 311 = .ok (.aaload, 1) := by decide +kernel
theorem d_W_isBuilt_312 : decode mi_W_isBuilt.2.1 312 = .ok (.iload 8, 2) := by decide +kernel
theorem d_W_isBuilt_314 : decode mi_W_isBuilt.2.1 314 = .ok (.iaload, 1) := by decide +kernel
theorem d_W_isBuilt_315 : decode mi_W_isBuilt.2.1 315 = .ok (.invokestatic 134, 3) := by decide +kernel
theorem d_W_isBuilt_318 : decode mi_W_isBuilt.2.1 318 = .ok (.iload 8, 2) := by decide +kernel
theorem d_W_isBuilt_320 : decode mi_W_isBuilt.2.1 320 = .ok (.if_icmp .ne (7), 3) := by decide +kernel
theorem d_W_isBuilt_323 : decode mi_W_isBuilt.2.1 323 = .ok (.iconst (1), 1) := by decide +kernel
theorem d_W_isBuilt_324 : decode mi_W_isBuilt.2.1 324 = .ok (.goto (4), 3) := by decide +kernel
theorem d_W_isBuilt_327 : decode mi_W_isBuilt.2.1 327 = .ok (.iconst (0), 1) := by decide +kernel
theorem d_W_isBuilt_328 : decode mi_W_isBuilt.2.1 328 = .ok (.iand, 1) := by decide +kernel
theorem d_W_isBuilt_329 : decode mi_W_isBuilt.2.1 329 = .ok (.istore 5, 2) := by decide +kernel
theorem d_W_isBuilt_331 : decode mi_W_isBuilt.2.1 331 = .ok (.iinc 8 (1), 3) := by decide +kernel
theorem d_W_isBuilt_334 : decode mi_W_isBuilt.2.1 334 = .ok (.goto (-77), 3) := by decide +kernel
theorem d_W_isBuilt_337 : decode mi_W_isBuilt.2.1 337 = .ok (.iinc 7 (1), 3) := by decide +kernel
theorem d_W_isBuilt_340 : decode mi_W_isBuilt.2.1 340 = .ok (.goto (-92), 3) := by decide +kernel
theorem d_W_isBuilt_343 : decode mi_W_isBuilt.2.1 343 = .ok (.iload 5, 2) := by decide +kernel
theorem d_W_isBuilt_345 : decode mi_W_isBuilt.2.1 345 = .ok (.ifCond .eq (34), 3) := by decide +kernel
theorem d_W_isBuilt_348 : decode mi_W_isBuilt.2.1 348 = .ok (.aload_n 0, 1) := by decide +kernel
theorem d_W_isBuilt_349 : decode mi_W_isBuilt.2.1 349 = .ok (.invokestatic 129, 3) := by decide +kernel
theorem d_W_isBuilt_352 : decode mi_W_isBuilt.2.1 352 = .ok (.iload 6, 2) := by decide +kernel
theorem d_W_isBuilt_354 : decode mi_W_isBuilt.2.1 354 = .ok (.if_icmp .ne (25), 3) := by decide +kernel
theorem d_W_isBuilt_357 : decode mi_W_isBuilt.2.1 357 = .ok (.aload_n 0, 1) := by decide +kernel
theorem d_W_isBuilt_358 : decode mi_W_isBuilt.2.1 358 = .ok (.invokestatic 129, 3) := by decide +kernel
theorem d_W_isBuilt_361 : decode mi_W_isBuilt.2.1 361 = .ok (.ldc 17, 2) := by decide +kernel
theorem d_W_isBuilt_363 : decode mi_W_isBuilt.2.1 363 = .ok (.if_icmp .ne (16), 3) := by decide +kernel
theorem d_W_isBuilt_366 : decode mi_W_isBuilt.2.1 366 = .ok (.aload_n 0, 1) := by decide +kernel
theorem d_W_isBuilt_367 : decode mi_W_isBuilt.2.1 367 = .ok (.invokestatic 120, 3) := by decide +kernel
theorem d_W_isBuilt_370 : decode mi_W_isBuilt.2.1 370 = .ok (.ldc 17, 2) := by decide +kernel
theorem d_W_isBuilt_372 : decode mi_W_isBuilt.2.1 372 = .ok (.if_icmp .ne (7), 3) := by decide +kernel
theorem d_W_isBuilt_375 : decode mi_W_isBuilt.2.1 375 = .ok (.iconst (1), 1) := by decide +kernel
theorem d_W_isBuilt_376 : decode mi_W_isBuilt.2.1 376 = .ok (.goto (4), 3) := by decide +kernel
theorem d_W_isBuilt_379 : decode mi_W_isBuilt.2.1 379 = .ok (.iconst (0), 1) := by decide +kernel
theorem d_W_isBuilt_380 : decode mi_W_isBuilt.2.1 380 = .ok (.ireturn, 1) := by decide +kernel
theorem s_W_isBuilt_62 : kCall TT cl6 X mi_W_isBuilt 62 3 mi_W_input 1 1 0 := k_static (index := 120) d_W_isBuilt_62 cs_W_input t_6_125 t_6_126
theorem s_W_isBuilt_100 : kCall TT cl6 X mi_W_isBuilt 100 3 mi_W_cell 1 4 0 := k_static (index := 123) d_W_isBuilt_100 cs_W_cell t_2_66 t_2_67
theorem s_W_isBuilt_134 : kCall TT cl6 X mi_W_isBuilt 134 3 mi_W_gate 1 5 0 := k_static (index := 126) d_W_isBuilt_134 cs_W_gate t_2_224 t_2_225
theorem s_W_isBuilt_199 : kCall TT cl6 X mi_W_isBuilt 199 3 mi_W_in 1 3 0 := k_static (index := 104) d_W_isBuilt_199 cs_W_in t_6_64 t_6_65
theorem s_W_isBuilt_202 : kCall TT cl6 X mi_W_isBuilt 202 3 mi_W_lineBy 1 4 0 := k_static (index := 116) d_W_isBuilt_202 cs_W_lineBy t_6_119 t_6_120
theorem s_W_isBuilt_209 : kCall TT cl6 X mi_W_isBuilt 209 3 mi_W_close 1 1 0 := k_static (index := 129) d_W_isBuilt_209 cs_W_close t_3_84 t_3_85
theorem s_W_isBuilt_212 : kPush TT cl6 X mi_W_isBuilt 212 2 (.int (Int32.ofInt (-900001))) := k_ldc (index := 17) d_W_isBuilt_212 t_2_221
theorem s_W_isBuilt_224 : kCall TT cl6 X mi_W_isBuilt 224 3 mi_W_data 1 3 0 := k_static (index := 131) d_W_isBuilt_224 cs_W_data t_3_51 t_3_52
theorem s_W_isBuilt_295 : kCall TT cl6 X mi_W_isBuilt 295 3 mi_W_in 1 3 0 := k_static (index := 104) d_W_isBuilt_295 cs_W_in t_6_64 t_6_65
theorem s_W_isBuilt_298 : kCall TT cl6 X mi_W_isBuilt 298 3 mi_W_lineBy 1 4 0 := k_static (index := 116) d_W_isBuilt_298 cs_W_lineBy t_6_119 t_6_120
theorem s_W_isBuilt_315 : kCall TT cl6 X mi_W_isBuilt 315 3 mi_W_output 1 3 0 := k_static (index := 134) d_W_isBuilt_315 cs_W_output t_3_70 t_3_71
theorem s_W_isBuilt_349 : kCall TT cl6 X mi_W_isBuilt 349 3 mi_W_close 1 1 0 := k_static (index := 129) d_W_isBuilt_349 cs_W_close t_3_84 t_3_85
theorem s_W_isBuilt_358 : kCall TT cl6 X mi_W_isBuilt 358 3 mi_W_close 1 1 0 := k_static (index := 129) d_W_isBuilt_358 cs_W_close t_3_84 t_3_85
theorem s_W_isBuilt_361 : kPush TT cl6 X mi_W_isBuilt 361 2 (.int (Int32.ofInt (-900001))) := k_ldc (index := 17) d_W_isBuilt_361 t_2_221
theorem s_W_isBuilt_367 : kCall TT cl6 X mi_W_isBuilt 367 3 mi_W_input 1 1 0 := k_static (index := 120) d_W_isBuilt_367 cs_W_input t_6_125 t_6_126
theorem s_W_isBuilt_370 : kPush TT cl6 X mi_W_isBuilt 370 2 (.int (Int32.ofInt (-900001))) := k_ldc (index := 17) d_W_isBuilt_370 t_2_221
end RW6
