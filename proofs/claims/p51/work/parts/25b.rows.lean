section RW1
variable {X : XT} {L9 : Nat} {xs : Nat → Int32}
theorem d_M_prove_0 : decode mi_M_prove.2.1 0 = .ok (.aload_n 0, 1) := by decide +kernel
theorem d_M_prove_1 : decode mi_M_prove.2.1 1 = .ok (.iload_n 1, 1) := by decide +kernel
theorem d_M_prove_2 : decode mi_M_prove.2.1 2 = .ok (.invokevirtual 77, 3) := by decide +kernel
theorem d_M_prove_5 : decode mi_M_prove.2.1 5 = .ok (.aload_n 0, 1) := by decide +kernel
theorem d_M_prove_6 : decode mi_M_prove.2.1 6 = .ok (.iload_n 2, 1) := by decide +kernel
theorem d_M_prove_7 : decode mi_M_prove.2.1 7 = .ok (.invokevirtual 77, 3) := by decide +kernel
theorem d_M_prove_10 : decode mi_M_prove.2.1 10 = .ok (.iload 4, 2) := by decide +kernel
theorem d_M_prove_12 : decode mi_M_prove.2.1 12 = .ok (.iconst (1), 1) := by decide +kernel
theorem d_M_prove_13 : decode mi_M_prove.2.1 13 = .ok (.sipush (20000), 3) := by decide +kernel
theorem d_M_prove_16 : decode mi_M_prove.2.1 16 = .ok (.invokestatic 45, 3) := by decide +kernel
theorem d_M_prove_19 : decode mi_M_prove.2.1 19 = .ok (.aload_n 0, 1) := by decide +kernel
theorem d_M_prove_20 : decode mi_M_prove.2.1 20 = .ok (.invokevirtual 130, 3) := by decide +kernel
theorem d_M_prove_23 : decode mi_M_prove.2.1 23 = .ok (.getfield 197, 3) := by decide +kernel
theorem d_M_prove_26 : decode mi_M_prove.2.1 26 = .ok (.astore 5, 2) := by decide +kernel
theorem d_M_prove_28 : decode mi_M_prove.2.1 28 = .ok (.aload 5, 2) := by decide +kernel
theorem d_M_prove_30 : decode mi_M_prove.2.1 30 = .ok (.iload_n 1, 1) := by decide +kernel
theorem d_M_prove_31 : decode mi_M_prove.2.1 31 = .ok (.iload_n 2, 1) := by decide +kernel
theorem d_M_prove_32 : decode mi_M_prove.2.1 32 = .ok (.iload_n 3, 1) := by decide +kernel
theorem d_M_prove_33 : decode mi_M_prove.2.1 33 = .ok (.invokevirtual 218, 3) := by decide +kernel
theorem d_M_prove_36 : decode mi_M_prove.2.1 36 = .ok (.aload 5, 2) := by decide +kernel
theorem d_M_prove_38 : decode mi_M_prove.2.1 38 = .ok (.getfield 222, 3) := by decide +kernel
theorem d_M_prove_41 : decode mi_M_prove.2.1 41 = .ok (.iload 4, 2) := by decide +kernel
theorem d_M_prove_43 : decode mi_M_prove.2.1 43 = .ok (.if_icmp .le (6), 3) := by decide +kernel
theorem d_M_prove_46 : decode mi_M_prove.2.1 46 = .ok (.bipush (117), 2) := by decide +kernel
theorem d_M_prove_48 : decode mi_M_prove.2.1 48 = .ok (.ireturn, 1) := by decide +kernel
theorem d_M_prove_49 : decode mi_M_prove.2.1 49 = .ok (.aload 5, 2) := by decide +kernel
theorem d_M_prove_51 : decode mi_M_prove.2.1 51 = .ok (.getfield 225, 3) := by decide +kernel
theorem d_M_prove_54 : decode mi_M_prove.2.1 54 = .ok (.ifCond .ge (8), 3) := by decide +kernel
theorem d_M_prove_57 : decode mi_M_prove.2.1 57 = .ok (.bipush (101), 2) := by decide +kernel
theorem d_M_prove_59 : decode mi_M_prove.2.1 59 = .ok (.goto (5), 3) := by decide +kernel
theorem d_M_prove_62 : decode mi_M_prove.2.1 62 = .ok (.bipush (100), 2) := by decide +kernel
theorem d_M_prove_64 : decode mi_M_prove.2.1 64 = .ok (.ireturn, 1) := by decide +kernel
theorem s_M_prove_2 : kCall TT cl6 X mi_M_prove 2 3 mi_M_mustBeLine 2 2 0 := k_virtual (index := 77) d_M_prove_2 cs_M_mustBeLine rfl rfl t_3_19 t_3_21 ts_17
theorem s_M_prove_7 : kCall TT cl6 X mi_M_prove 7 3 mi_M_mustBeLine 2 2 0 := k_virtual (index := 77) d_M_prove_7 cs_M_mustBeLine rfl rfl t_3_19 t_3_21 ts_17
theorem s_M_prove_16 : kCall TT cl6 X mi_M_prove 16 3 mi_M_mustBeWithin 1 3 0 := k_static (index := 45) d_M_prove_16 cs_M_mustBeWithin t_2_76 t_2_77
theorem s_M_prove_20 : kCall TT cl6 X mi_M_prove 20 3 mi_M_mustBeClosed 2 1 0 := k_virtual (index := 130) d_M_prove_20 cs_M_mustBeClosed rfl rfl t_5_88 t_5_90 ts_24
theorem s_M_prove_23 : kGet TT cl6 X mi_M_prove 23 2 3 := k_get (index := 197) cK_2 d_M_prove_23 (by decide) ⟨"Miterhouse$Closed", Or.inl t_4_201, Or.inl rfl⟩
theorem s_M_prove_33 : kCall TT cl6 X mi_M_prove 33 3 mi_S_compare 2 4 5 := k_virtual (index := 218) d_M_prove_33 cs_S_compare rfl rfl t_5_176 t_2_35 t_2_36
theorem s_M_prove_38 : kGet TT cl6 X mi_M_prove 38 5 7 := k_get (index := 222) cK_5 d_M_prove_38 (by decide) ⟨"Miterhouse$Sweeping", Or.inl t_3_216, Or.inl rfl⟩
theorem s_M_prove_51 : kGet TT cl6 X mi_M_prove 51 5 8 := k_get (index := 225) cK_5 d_M_prove_51 (by decide) ⟨"Miterhouse$Sweeping", Or.inl t_3_218, Or.inl rfl⟩
theorem d_M_putNumber_0 : decode mi_M_putNumber.2.1 0 = .ok (.iload_n 1, 1) := by decide +kernel
theorem d_M_putNumber_1 : decode mi_M_putNumber.2.1 1 = .ok (.ifCond .lt (13), 3) := by decide +kernel
theorem d_M_putNumber_4 : decode mi_M_putNumber.2.1 4 = .ok (.iload_n 1, 1) := by decide +kernel
theorem d_M_putNumber_5 : decode mi_M_putNumber.2.1 5 = .ok (.aload_n 0, 1) := by decide +kernel
theorem d_M_putNumber_6 : decode mi_M_putNumber.2.1 6 = .ok (.arraylength, 1) := by decide +kernel
theorem d_M_putNumber_7 : decode mi_M_putNumber.2.1 7 = .ok (.if_icmp .ge (7), 3) := by decide +kernel
theorem d_M_putNumber_10 : decode mi_M_putNumber.2.1 10 = .ok (.aload_n 0, 1) := by decide +kernel
theorem d_M_putNumber_11 : decode mi_M_putNumber.2.1 11 = .ok (.iload_n 1, 1) := by decide +kernel
theorem d_M_putNumber_12 : decode mi_M_putNumber.2.1 12 = .ok (.iload_n 2, 1) := by decide +kernel
theorem d_M_putNumber_13 : decode mi_M_putNumber.2.1 13 = .ok (.iastore, 1) := by decide +kernel
theorem d_M_putNumber_14 : decode mi_M_putNumber.2.1 14 = .ok (.return_, 1) := by decide +kernel
theorem d_M_putWord_0 : decode mi_M_putWord.2.1 0 = .ok (.iload_n 1, 1) := by decide +kernel
theorem d_M_putWord_1 : decode mi_M_putWord.2.1 1 = .ok (.ifCond .lt (13), 3) := by decide +kernel
theorem d_M_putWord_4 : decode mi_M_putWord.2.1 4 = .ok (.iload_n 1, 1) := by decide +kernel
theorem d_M_putWord_5 : decode mi_M_putWord.2.1 5 = .ok (.aload_n 0, 1) := by decide +kernel
theorem d_M_putWord_6 : decode mi_M_putWord.2.1 6 = .ok (.arraylength, 1) := by decide +kernel
theorem d_M_putWord_7 : decode mi_M_putWord.2.1 7 = .ok (.if_icmp .ge (7), 3) := by decide +kernel
theorem d_M_putWord_10 : decode mi_M_putWord.2.1 10 = .ok (.aload_n 0, 1) := by decide +kernel
theorem d_M_putWord_11 : decode mi_M_putWord.2.1 11 = .ok (.iload_n 1, 1) := by decide +kernel
theorem d_M_putWord_12 : decode mi_M_putWord.2.1 12 = .ok (.lload_n 2, 1) := by decide +kernel
theorem d_M_putWord_13 : decode mi_M_putWord.2.1 13 = .ok (.lastore, 1) := by decide +kernel
theorem d_M_putWord_14 : decode mi_M_putWord.2.1 14 = .ok (.return_, 1) := by decide +kernel
theorem d_M_reached_0 : decode mi_M_reached.2.1 0 = .ok (.aload_n 0, 1) := by decide +kernel
theorem d_M_reached_1 : decode mi_M_reached.2.1 1 = .ok (.invokevirtual 130, 3) := by decide +kernel
theorem d_M_reached_4 : decode mi_M_reached.2.1 4 = .ok (.getfield 350, 3) := by decide +kernel
theorem d_M_reached_7 : decode mi_M_reached.2.1 7 = .ok (.astore_n 1, 1) := by decide +kernel
theorem d_M_reached_8 : decode mi_M_reached.2.1 8 = .ok (.aload_n 1, 1) := by decide +kernel
theorem d_M_reached_9 : decode mi_M_reached.2.1 9 = .ok (.invokevirtual 354, 3) := by decide +kernel
theorem d_M_reached_12 : decode mi_M_reached.2.1 12 = .ok (.aload_n 1, 1) := by decide +kernel
theorem d_M_reached_13 : decode mi_M_reached.2.1 13 = .ok (.getfield 359, 3) := by decide +kernel
theorem d_M_reached_16 : decode mi_M_reached.2.1 16 = .ok (.ireturn, 1) := by decide +kernel
theorem s_M_reached_1 : kCall TT cl6 X mi_M_reached 1 3 mi_M_mustBeClosed 2 1 0 := k_virtual (index := 130) d_M_reached_1 cs_M_mustBeClosed rfl rfl t_5_88 t_5_90 ts_24
theorem s_M_reached_4 : kGet TT cl6 X mi_M_reached 4 2 10 := k_get (index := 350) cK_2 d_M_reached_4 (by decide) ⟨"Miterhouse$Closed", Or.inl t_4_209, Or.inl rfl⟩
theorem s_M_reached_9 : kCall TT cl6 X mi_M_reached 9 3 mi_T_search 2 1 6 := k_virtual (index := 354) d_M_reached_9 cs_T_search rfl rfl t_5_237 t_1_121 t_1_122
theorem s_M_reached_13 : kGet TT cl6 X mi_M_reached 13 6 14 := k_get (index := 359) cK_6 d_M_reached_13 (by decide) ⟨"Miterhouse$States", Or.inl t_4_159, Or.inl rfl⟩
theorem d_M_run_0 : decode mi_M_run.2.1 0 = .ok (.iload_n 1, 1) := by decide +kernel
theorem d_M_run_1 : decode mi_M_run.2.1 1 = .ok (.iconst (0), 1) := by decide +kernel
theorem d_M_run_2 : decode mi_M_run.2.1 2 = .ok (.iconst (1), 1) := by decide +kernel
theorem d_M_run_3 : decode mi_M_run.2.1 3 = .ok (.invokestatic 45, 3) := by decide +kernel
theorem d_M_run_6 : decode mi_M_run.2.1 6 = .ok (.iload_n 2, 1) := by decide +kernel
theorem d_M_run_7 : decode mi_M_run.2.1 7 = .ok (.iconst (0), 1) := by decide +kernel
theorem d_M_run_8 : decode mi_M_run.2.1 8 = .ok (.bipush (30), 2) := by decide +kernel
theorem d_M_run_10 : decode mi_M_run.2.1 10 = .ok (.invokestatic 45, 3) := by decide +kernel
theorem d_M_run_13 : decode mi_M_run.2.1 13 = .ok (.iload_n 3, 1) := by decide +kernel
theorem d_M_run_14 : decode mi_M_run.2.1 14 = .ok (.iconst (0), 1) := by decide +kernel
theorem d_M_run_15 : decode mi_M_run.2.1 15 = .ok (.iconst (1), 1) := by decide +kernel
theorem d_M_run_16 : decode mi_M_run.2.1 16 = .ok (.aload_n 0, 1) := by decide +kernel
theorem d_M_run_17 : decode mi_M_run.2.1 17 = .ok (.getfield 10, 3) := by decide +kernel
theorem d_M_run_20 : decode mi_M_run.2.1 20 = .ok (.getfield 31, 3) := by decide +kernel
theorem d_M_run_23 : decode mi_M_run.2.1 23 = .ok (.ishl, 1) := by decide +kernel
theorem d_M_run_24 : decode mi_M_run.2.1 24 = .ok (.iconst (1), 1) := by decide +kernel
theorem d_M_run_25 : decode mi_M_run.2.1 25 = .ok (.isub, 1) := by decide +kernel
theorem d_M_run_26 : decode mi_M_run.2.1 26 = .ok (.invokestatic 45, 3) := by decide +kernel
theorem d_M_run_29 : decode mi_M_run.2.1 29 = .ok (.aload_n 0, 1) := by decide +kernel
theorem d_M_run_30 : decode mi_M_run.2.1 30 = .ok (.getfield 20, 3) := by decide +kernel
theorem d_M_run_33 : decode mi_M_run.2.1 33 = .ok (.ifnull (27), 3) := by decide +kernel
theorem d_M_run_36 : decode mi_M_run.2.1 36 = .ok (.aload_n 0, 1) := by decide +kernel
theorem d_M_run_37 : decode mi_M_run.2.1 37 = .ok (.getfield 20, 3) := by decide +kernel
theorem d_M_run_40 : decode mi_M_run.2.1 40 = .ok (.getfield 134, 3) := by decide +kernel
theorem d_M_run_43 : decode mi_M_run.2.1 43 = .ok (.iload_n 3, 1) := by decide +kernel
theorem d_M_run_44 : decode mi_M_run.2.1 44 = .ok (.invokevirtual 376, 3) := by decide +kernel
theorem d_M_run_47 : decode mi_M_run.2.1 47 = .ok (.ifCond .ne (13), 3) := by decide +kernel
theorem d_M_run_50 : decode mi_M_run.2.1 50 = .ok (.new 72, 3) := by decide +kernel
theorem d_M_run_53 : decode mi_M_run.2.1 53 = .ok (.dup, 1) := by decide +kernel
theorem d_M_run_54 : decode mi_M_run.2.1 54 = .ok (.ldc 195, 2) := by decide +kernel
theorem d_M_run_56 : decode mi_M_run.2.1 56 = .ok (.invokespecial 76, 3) := by decide +kernel
theorem d_M_run_59 : decode mi_M_run.2.1 59 = .ok (.athrow, 1) := by decide +kernel
theorem d_M_run_60 : decode mi_M_run.2.1 60 = .ok (.aload_n 0, 1) := by decide +kernel
theorem d_M_run_61 : decode mi_M_run.2.1 61 = .ok (.invokevirtual 130, 3) := by decide +kernel
theorem d_M_run_64 : decode mi_M_run.2.1 64 = .ok (.getfield 350, 3) := by decide +kernel
theorem d_M_run_67 : decode mi_M_run.2.1 67 = .ok (.iload_n 1, 1) := by decide +kernel
theorem d_M_run_68 : decode mi_M_run.2.1 68 = .ok (.iload_n 2, 1) := by decide +kernel
theorem d_M_run_69 : decode mi_M_run.2.1 69 = .ok (.iload_n 3, 1) := by decide +kernel
theorem d_M_run_70 : decode mi_M_run.2.1 70 = .ok (.invokevirtual 379, 3) := by decide +kernel
theorem d_M_run_73 : decode mi_M_run.2.1 73 = .ok (.ireturn, 1) := by decide +kernel
theorem s_M_run_3 : kCall TT cl6 X mi_M_run 3 3 mi_M_mustBeWithin 1 3 0 := k_static (index := 45) d_M_run_3 cs_M_mustBeWithin t_2_76 t_2_77
theorem s_M_run_10 : kCall TT cl6 X mi_M_run 10 3 mi_M_mustBeWithin 1 3 0 := k_static (index := 45) d_M_run_10 cs_M_mustBeWithin t_2_76 t_2_77
theorem s_M_run_17 : kGet TT cl6 X mi_M_run 17 0 0 := k_get (index := 10) cK_0 d_M_run_17 (by decide) ⟨"Miterhouse", Or.inl t_1_94, Or.inl rfl⟩
theorem s_M_run_20 : kGet TT cl6 X mi_M_run 20 1 12 := k_get (index := 31) cK_1 d_M_run_20 (by decide) ⟨"Miterhouse$Nets", Or.inl t_1_63, Or.inl rfl⟩
theorem s_M_run_26 : kCall TT cl6 X mi_M_run 26 3 mi_M_mustBeWithin 1 3 0 := k_static (index := 45) d_M_run_26 cs_M_mustBeWithin t_2_76 t_2_77
theorem s_M_run_30 : kGet TT cl6 X mi_M_run 30 0 2 := k_get (index := 20) cK_0 d_M_run_30 (by decide) ⟨"Miterhouse", Or.inl t_1_96, Or.inl rfl⟩
theorem s_M_run_37 : kGet TT cl6 X mi_M_run 37 0 2 := k_get (index := 20) cK_0 d_M_run_37 (by decide) ⟨"Miterhouse", Or.inl t_1_96, Or.inl rfl⟩
theorem s_M_run_40 : kGet TT cl6 X mi_M_run 40 2 1 := k_get (index := 134) cK_2 d_M_run_40 (by decide) ⟨"Miterhouse$Closed", Or.inl t_4_197, Or.inl rfl⟩
theorem s_M_run_44 : kCall TT cl6 X mi_M_run 44 3 mi_V_areKeptInputs 2 2 3 := k_virtual (index := 376) d_M_run_44 cs_V_areKeptInputs rfl rfl t_6_21 t_1_192 t_1_193
theorem s_M_run_50 (h : HX X L9 xs) : kThr TT cl6 X mi_M_run 50 "java/lang/IllegalArgumentException" 6 82 := k_thr (ik := 72) (is := 195) (ic := 76) (names := exn) (hx_t h) (hx_s h 15 rfl) (by decide +kernel) (by decide +kernel) t_2_79 t_1_19 (thr_in (by decide +kernel)) (by decide +kernel) d_M_run_50 d_M_run_53 d_M_run_54 d_M_run_56 d_M_run_59 (by decide)
theorem s_M_run_61 : kCall TT cl6 X mi_M_run 61 3 mi_M_mustBeClosed 2 1 0 := k_virtual (index := 130) d_M_run_61 cs_M_mustBeClosed rfl rfl t_5_88 t_5_90 ts_24
theorem s_M_run_64 : kGet TT cl6 X mi_M_run 64 2 10 := k_get (index := 350) cK_2 d_M_run_64 (by decide) ⟨"Miterhouse$Closed", Or.inl t_4_209, Or.inl rfl⟩
theorem s_M_run_70 : kCall TT cl6 X mi_M_run 70 3 mi_T_outputsBehind 2 4 6 := k_virtual (index := 379) d_M_run_70 cs_T_outputsBehind rfl rfl t_6_22 t_6_23 t_6_24
theorem d_M_sweep_0 : decode mi_M_sweep.2.1 0 = .ok (.iload_n 1, 1) := by decide +kernel
theorem d_M_sweep_1 : decode mi_M_sweep.2.1 1 = .ok (.iconst (1), 1) := by decide +kernel
theorem d_M_sweep_2 : decode mi_M_sweep.2.1 2 = .ok (.sipush (20000), 3) := by decide +kernel
theorem d_M_sweep_5 : decode mi_M_sweep.2.1 5 = .ok (.invokestatic 45, 3) := by decide +kernel
theorem d_M_sweep_8 : decode mi_M_sweep.2.1 8 = .ok (.aload_n 0, 1) := by decide +kernel
theorem d_M_sweep_9 : decode mi_M_sweep.2.1 9 = .ok (.invokevirtual 130, 3) := by decide +kernel
theorem d_M_sweep_12 : decode mi_M_sweep.2.1 12 = .ok (.getfield 197, 3) := by decide +kernel
theorem d_M_sweep_15 : decode mi_M_sweep.2.1 15 = .ok (.astore_n 2, 1) := by decide +kernel
theorem d_M_sweep_16 : decode mi_M_sweep.2.1 16 = .ok (.aload_n 2, 1) := by decide +kernel
theorem d_M_sweep_17 : decode mi_M_sweep.2.1 17 = .ok (.iload_n 1, 1) := by decide +kernel
theorem d_M_sweep_18 : decode mi_M_sweep.2.1 18 = .ok (.invokevirtual 232, 3) := by decide +kernel
theorem d_M_sweep_21 : decode mi_M_sweep.2.1 21 = .ok (.aload_n 2, 1) := by decide +kernel
theorem d_M_sweep_22 : decode mi_M_sweep.2.1 22 = .ok (.getfield 235, 3) := by decide +kernel
theorem d_M_sweep_25 : decode mi_M_sweep.2.1 25 = .ok (.ireturn, 1) := by decide +kernel
theorem s_M_sweep_5 : kCall TT cl6 X mi_M_sweep 5 3 mi_M_mustBeWithin 1 3 0 := k_static (index := 45) d_M_sweep_5 cs_M_mustBeWithin t_2_76 t_2_77
theorem s_M_sweep_9 : kCall TT cl6 X mi_M_sweep 9 3 mi_M_mustBeClosed 2 1 0 := k_virtual (index := 130) d_M_sweep_9 cs_M_mustBeClosed rfl rfl t_5_88 t_5_90 ts_24
theorem s_M_sweep_12 : kGet TT cl6 X mi_M_sweep 12 2 3 := k_get (index := 197) cK_2 d_M_sweep_12 (by decide) ⟨"Miterhouse$Closed", Or.inl t_4_201, Or.inl rfl⟩
theorem s_M_sweep_22 : kGet TT cl6 X mi_M_sweep 22 5 5 := k_get (index := 235) cK_5 d_M_sweep_22 (by decide) ⟨"Miterhouse$Sweeping", Or.inl t_3_213, Or.inl rfl⟩
theorem d_M_trace_0 : decode mi_M_trace.2.1 0 = .ok (.aload_n 0, 1) := by decide +kernel
theorem d_M_trace_1 : decode mi_M_trace.2.1 1 = .ok (.invokevirtual 130, 3) := by decide +kernel
theorem d_M_trace_4 : decode mi_M_trace.2.1 4 = .ok (.getfield 350, 3) := by decide +kernel
theorem d_M_trace_7 : decode mi_M_trace.2.1 7 = .ok (.astore_n 2, 1) := by decide +kernel
theorem d_M_trace_8 : decode mi_M_trace.2.1 8 = .ok (.aload_n 2, 1) := by decide +kernel
theorem d_M_trace_9 : decode mi_M_trace.2.1 9 = .ok (.invokevirtual 354, 3) := by decide +kernel
theorem d_M_trace_12 : decode mi_M_trace.2.1 12 = .ok (.iload_n 1, 1) := by decide +kernel
theorem d_M_trace_13 : decode mi_M_trace.2.1 13 = .ok (.ifCond .lt (11), 3) := by decide +kernel
theorem d_M_trace_16 : decode mi_M_trace.2.1 16 = .ok (.iload_n 1, 1) := by decide +kernel
theorem d_M_trace_17 : decode mi_M_trace.2.1 17 = .ok (.aload_n 2, 1) := by decide +kernel
theorem d_M_trace_18 : decode mi_M_trace.2.1 18 = .ok (.getfield 362, 3) := by decide +kernel
theorem d_M_trace_21 : decode mi_M_trace.2.1 21 = .ok (.if_icmp .le (14), 3) := by decide +kernel
theorem d_M_trace_24 : decode mi_M_trace.2.1 24 = .ok (.new 181, 3) := by decide +kernel
theorem d_M_trace_27 : decode mi_M_trace.2.1 27 = .ok (.dup, 1) := by decide +kernel
theorem d_M_trace_28 : decode mi_M_trace.2.1 28 = .ok (.ldc_w 365, 3) := by decide +kernel
theorem d_M_trace_31 : decode mi_M_trace.2.1 31 = .ok (.invokespecial 185, 3) := by decide +kernel
theorem d_M_trace_34 : decode mi_M_trace.2.1 34 = .ok (.athrow, 1) := by decide +kernel
theorem d_M_trace_35 : decode mi_M_trace.2.1 35 = .ok (.aload_n 2, 1) := by decide +kernel
theorem d_M_trace_36 : decode mi_M_trace.2.1 36 = .ok (.iload_n 1, 1) := by decide +kernel
theorem d_M_trace_37 : decode mi_M_trace.2.1 37 = .ok (.invokevirtual 367, 3) := by decide +kernel
theorem d_M_trace_40 : decode mi_M_trace.2.1 40 = .ok (.ireturn, 1) := by decide +kernel
theorem s_M_trace_1 : kCall TT cl6 X mi_M_trace 1 3 mi_M_mustBeClosed 2 1 0 := k_virtual (index := 130) d_M_trace_1 cs_M_mustBeClosed rfl rfl t_5_88 t_5_90 ts_24
theorem s_M_trace_4 : kGet TT cl6 X mi_M_trace 4 2 10 := k_get (index := 350) cK_2 d_M_trace_4 (by decide) ⟨"Miterhouse$Closed", Or.inl t_4_209, Or.inl rfl⟩
theorem s_M_trace_9 : kCall TT cl6 X mi_M_trace 9 3 mi_T_search 2 1 6 := k_virtual (index := 354) d_M_trace_9 cs_T_search rfl rfl t_5_237 t_1_121 t_1_122
theorem s_M_trace_18 : kGet TT cl6 X mi_M_trace 18 6 15 := k_get (index := 362) cK_6 d_M_trace_18 (by decide) ⟨"Miterhouse$States", Or.inl t_4_161, Or.inl rfl⟩
theorem s_M_trace_37 : kCall TT cl6 X mi_M_trace 37 3 mi_T_traceAt 2 2 6 := k_virtual (index := 367) d_M_trace_37 cs_T_traceAt rfl rfl t_6_13 t_2_63 t_2_64
theorem d_M_value_0 : decode mi_M_value.2.1 0 = .ok (.aload_n 0, 1) := by decide +kernel
theorem d_M_value_1 : decode mi_M_value.2.1 1 = .ok (.iload_n 1, 1) := by decide +kernel
theorem d_M_value_2 : decode mi_M_value.2.1 2 = .ok (.invokevirtual 77, 3) := by decide +kernel
theorem d_M_value_5 : decode mi_M_value.2.1 5 = .ok (.aload_n 0, 1) := by decide +kernel
theorem d_M_value_6 : decode mi_M_value.2.1 6 = .ok (.iload_n 2, 1) := by decide +kernel
theorem d_M_value_7 : decode mi_M_value.2.1 7 = .ok (.invokevirtual 160, 3) := by decide +kernel
theorem d_M_value_10 : decode mi_M_value.2.1 10 = .ok (.aload_n 0, 1) := by decide +kernel
theorem d_M_value_11 : decode mi_M_value.2.1 11 = .ok (.invokevirtual 130, 3) := by decide +kernel
theorem d_M_value_14 : decode mi_M_value.2.1 14 = .ok (.getfield 134, 3) := by decide +kernel
theorem d_M_value_17 : decode mi_M_value.2.1 17 = .ok (.iload_n 1, 1) := by decide +kernel
theorem d_M_value_18 : decode mi_M_value.2.1 18 = .ok (.iload_n 2, 1) := by decide +kernel
theorem d_M_value_19 : decode mi_M_value.2.1 19 = .ok (.invokevirtual 163, 3) := by decide +kernel
theorem d_M_value_22 : decode mi_M_value.2.1 22 = .ok (.ireturn, 1) := by decide +kernel
theorem s_M_value_2 : kCall TT cl6 X mi_M_value 2 3 mi_M_mustBeLine 2 2 0 := k_virtual (index := 77) d_M_value_2 cs_M_mustBeLine rfl rfl t_3_19 t_3_21 ts_17
theorem s_M_value_7 : kCall TT cl6 X mi_M_value 7 3 mi_M_mustBeChoice 2 2 0 := k_virtual (index := 160) d_M_value_7 cs_M_mustBeChoice rfl rfl t_5_125 t_5_127 ts_26
theorem s_M_value_11 : kCall TT cl6 X mi_M_value 11 3 mi_M_mustBeClosed 2 1 0 := k_virtual (index := 130) d_M_value_11 cs_M_mustBeClosed rfl rfl t_5_88 t_5_90 ts_24
theorem s_M_value_14 : kGet TT cl6 X mi_M_value 14 2 1 := k_get (index := 134) cK_2 d_M_value_14 (by decide) ⟨"Miterhouse$Closed", Or.inl t_4_197, Or.inl rfl⟩
theorem s_M_value_19 : kCall TT cl6 X mi_M_value 19 3 mi_V_bitAtChoice 2 3 3 := k_virtual (index := 163) d_M_value_19 cs_V_bitAtChoice rfl rfl t_5_129 t_1_145 t_1_146
theorem d_M_witness_0 : decode mi_M_witness.2.1 0 = .ok (.aload_n 0, 1) := by decide +kernel
theorem d_M_witness_1 : decode mi_M_witness.2.1 1 = .ok (.iload_n 1, 1) := by decide +kernel
theorem d_M_witness_2 : decode mi_M_witness.2.1 2 = .ok (.invokevirtual 77, 3) := by decide +kernel
theorem d_M_witness_5 : decode mi_M_witness.2.1 5 = .ok (.aload_n 0, 1) := by decide +kernel
theorem d_M_witness_6 : decode mi_M_witness.2.1 6 = .ok (.iload_n 2, 1) := by decide +kernel
theorem d_M_witness_7 : decode mi_M_witness.2.1 7 = .ok (.invokevirtual 77, 3) := by decide +kernel
theorem d_M_witness_10 : decode mi_M_witness.2.1 10 = .ok (.aload_n 0, 1) := by decide +kernel
theorem d_M_witness_11 : decode mi_M_witness.2.1 11 = .ok (.invokevirtual 130, 3) := by decide +kernel
theorem d_M_witness_14 : decode mi_M_witness.2.1 14 = .ok (.getfield 197, 3) := by decide +kernel
theorem d_M_witness_17 : decode mi_M_witness.2.1 17 = .ok (.astore 4, 2) := by decide +kernel
theorem d_M_witness_19 : decode mi_M_witness.2.1 19 = .ok (.aload 4, 2) := by decide +kernel
theorem d_M_witness_21 : decode mi_M_witness.2.1 21 = .ok (.iload_n 1, 1) := by decide +kernel
theorem d_M_witness_22 : decode mi_M_witness.2.1 22 = .ok (.iload_n 2, 1) := by decide +kernel
theorem d_M_witness_23 : decode mi_M_witness.2.1 23 = .ok (.iload_n 3, 1) := by decide +kernel
theorem d_M_witness_24 : decode mi_M_witness.2.1 24 = .ok (.invokevirtual 218, 3) := by decide +kernel
theorem d_M_witness_27 : decode mi_M_witness.2.1 27 = .ok (.aload 4, 2) := by decide +kernel
theorem d_M_witness_29 : decode mi_M_witness.2.1 29 = .ok (.getfield 225, 3) := by decide +kernel
theorem d_M_witness_32 : decode mi_M_witness.2.1 32 = .ok (.ifCond .ge (13), 3) := by decide +kernel
theorem d_M_witness_35 : decode mi_M_witness.2.1 35 = .ok (.new 181, 3) := by decide +kernel
theorem d_M_witness_38 : decode mi_M_witness.2.1 38 = .ok (.dup, 1) := by decide +kernel
theorem d_M_witness_39 : decode mi_M_witness.2.1 39 = .ok (.ldc 230, 2) := by decide +kernel
theorem d_M_witness_41 : decode mi_M_witness.2.1 41 = .ok (.invokespecial 185, 3) := by decide +kernel
theorem d_M_witness_44 : decode mi_M_witness.2.1 44 = .ok (.athrow, 1) := by decide +kernel
theorem d_M_witness_45 : decode mi_M_witness.2.1 45 = .ok (.aload 4, 2) := by decide +kernel
theorem d_M_witness_47 : decode mi_M_witness.2.1 47 = .ok (.getfield 225, 3) := by decide +kernel
theorem d_M_witness_50 : decode mi_M_witness.2.1 50 = .ok (.ireturn, 1) := by decide +kernel
theorem s_M_witness_2 : kCall TT cl6 X mi_M_witness 2 3 mi_M_mustBeLine 2 2 0 := k_virtual (index := 77) d_M_witness_2 cs_M_mustBeLine rfl rfl t_3_19 t_3_21 ts_17
theorem s_M_witness_7 : kCall TT cl6 X mi_M_witness 7 3 mi_M_mustBeLine 2 2 0 := k_virtual (index := 77) d_M_witness_7 cs_M_mustBeLine rfl rfl t_3_19 t_3_21 ts_17
theorem s_M_witness_11 : kCall TT cl6 X mi_M_witness 11 3 mi_M_mustBeClosed 2 1 0 := k_virtual (index := 130) d_M_witness_11 cs_M_mustBeClosed rfl rfl t_5_88 t_5_90 ts_24
theorem s_M_witness_14 : kGet TT cl6 X mi_M_witness 14 2 3 := k_get (index := 197) cK_2 d_M_witness_14 (by decide) ⟨"Miterhouse$Closed", Or.inl t_4_201, Or.inl rfl⟩
theorem s_M_witness_24 : kCall TT cl6 X mi_M_witness 24 3 mi_S_compare 2 4 5 := k_virtual (index := 218) d_M_witness_24 cs_S_compare rfl rfl t_5_176 t_2_35 t_2_36
theorem s_M_witness_29 : kGet TT cl6 X mi_M_witness 29 5 8 := k_get (index := 225) cK_5 d_M_witness_29 (by decide) ⟨"Miterhouse$Sweeping", Or.inl t_3_218, Or.inl rfl⟩
theorem s_M_witness_47 : kGet TT cl6 X mi_M_witness 47 5 8 := k_get (index := 225) cK_5 d_M_witness_47 (by decide) ⟨"Miterhouse$Sweeping", Or.inl t_3_218, Or.inl rfl⟩
theorem d_M_wordAt_0 : decode mi_M_wordAt.2.1 0 = .ok (.iload_n 1, 1) := by decide +kernel
theorem d_M_wordAt_1 : decode mi_M_wordAt.2.1 1 = .ok (.ifCond .lt (15), 3) := by decide +kernel
theorem d_M_wordAt_4 : decode mi_M_wordAt.2.1 4 = .ok (.iload_n 1, 1) := by decide +kernel
theorem d_M_wordAt_5 : decode mi_M_wordAt.2.1 5 = .ok (.aload_n 0, 1) := by decide +kernel
theorem d_M_wordAt_6 : decode mi_M_wordAt.2.1 6 = .ok (.arraylength, 1) := by decide +kernel
theorem d_M_wordAt_7 : decode mi_M_wordAt.2.1 7 = .ok (.if_icmp .ge (9), 3) := by decide +kernel
theorem d_M_wordAt_10 : decode mi_M_wordAt.2.1 10 = .ok (.aload_n 0, 1) := by decide +kernel
theorem d_M_wordAt_11 : decode mi_M_wordAt.2.1 11 = .ok (.iload_n 1, 1) := by decide +kernel
theorem d_M_wordAt_12 : decode mi_M_wordAt.2.1 12 = .ok (.laload, 1) := by decide +kernel
theorem d_M_wordAt_13 : decode mi_M_wordAt.2.1 13 = .ok (.goto (4), 3) := by decide +kernel
theorem d_M_wordAt_16 : decode mi_M_wordAt.2.1 16 = .ok (.lconst 0, 1) := by decide +kernel
theorem d_M_wordAt_17 : decode mi_M_wordAt.2.1 17 = .ok (.lreturn, 1) := by decide +kernel
theorem d_M_zeroOf_0 : decode mi_M_zeroOf.2.1 0 = .ok (.iload_n 0, 1) := by decide +kernel
theorem d_M_zeroOf_1 : decode mi_M_zeroOf.2.1 1 = .ok (.lookupswitch (91) #[((97), (59)), ((110), (64)), ((111), (69)), ((114), (74)), ((118), (89)), ((120), (79))], 59) := by decide +kernel
theorem d_M_zeroOf_60 : decode mi_M_zeroOf.2.1 60 = .ok (.lload_n 3, 1) := by decide +kernel
theorem d_M_zeroOf_61 : decode mi_M_zeroOf.2.1 61 = .ok (.lload 7, 2) := by decide +kernel
theorem d_M_zeroOf_63 : decode mi_M_zeroOf.2.1 63 = .ok (.lor, 1) := by decide +kernel
theorem d_M_zeroOf_64 : decode mi_M_zeroOf.2.1 64 = .ok (.lreturn, 1) := by decide +kernel
theorem d_M_zeroOf_65 : decode mi_M_zeroOf.2.1 65 = .ok (.lload_n 1, 1) := by decide +kernel
theorem d_M_zeroOf_66 : decode mi_M_zeroOf.2.1 66 = .ok (.lload 5, 2) := by decide +kernel
theorem d_M_zeroOf_68 : decode mi_M_zeroOf.2.1 68 = .ok (.land, 1) := by decide +kernel
theorem d_M_zeroOf_69 : decode mi_M_zeroOf.2.1 69 = .ok (.lreturn, 1) := by decide +kernel
theorem d_M_zeroOf_70 : decode mi_M_zeroOf.2.1 70 = .ok (.lload_n 3, 1) := by decide +kernel
theorem d_M_zeroOf_71 : decode mi_M_zeroOf.2.1 71 = .ok (.lload 7, 2) := by decide +kernel
theorem d_M_zeroOf_73 : decode mi_M_zeroOf.2.1 73 = .ok (.land, 1) := by decide +kernel
theorem d_M_zeroOf_74 : decode mi_M_zeroOf.2.1 74 = .ok (.lreturn, 1) := by decide +kernel
theorem d_M_zeroOf_75 : decode mi_M_zeroOf.2.1 75 = .ok (.lload_n 1, 1) := by decide +kernel
theorem d_M_zeroOf_76 : decode mi_M_zeroOf.2.1 76 = .ok (.lload 5, 2) := by decide +kernel
theorem d_M_zeroOf_78 : decode mi_M_zeroOf.2.1 78 = .ok (.lor, 1) := by decide +kernel
theorem d_M_zeroOf_79 : decode mi_M_zeroOf.2.1 79 = .ok (.lreturn, 1) := by decide +kernel
theorem d_M_zeroOf_80 : decode mi_M_zeroOf.2.1 80 = .ok (.lload_n 1, 1) := by decide +kernel
theorem d_M_zeroOf_81 : decode mi_M_zeroOf.2.1 81 = .ok (.lload 5, 2) := by decide +kernel
theorem d_M_zeroOf_83 : decode mi_M_zeroOf.2.1 83 = .ok (.land, 1) := by decide +kernel
theorem d_M_zeroOf_84 : decode mi_M_zeroOf.2.1 84 = .ok (.lload_n 3, 1) := by decide +kernel
theorem d_M_zeroOf_85 : decode mi_M_zeroOf.2.1 85 = .ok (.lload 7, 2) := by decide +kernel
theorem d_M_zeroOf_87 : decode mi_M_zeroOf.2.1 87 = .ok (.land, 1) := by decide +kernel
theorem d_M_zeroOf_88 : decode mi_M_zeroOf.2.1 88 = .ok (.lor, 1) := by decide +kernel
theorem d_M_zeroOf_89 : decode mi_M_zeroOf.2.1 89 = .ok (.lreturn, 1) := by decide +kernel
theorem d_M_zeroOf_90 : decode mi_M_zeroOf.2.1 90 = .ok (.lload_n 1, 1) := by decide +kernel
theorem d_M_zeroOf_91 : decode mi_M_zeroOf.2.1 91 = .ok (.lreturn, 1) := by decide +kernel
theorem d_M_zeroOf_92 : decode mi_M_zeroOf.2.1 92 = .ok (.lload_n 3, 1) := by decide +kernel
theorem d_M_zeroOf_93 : decode mi_M_zeroOf.2.1 93 = .ok (.lreturn, 1) := by decide +kernel
theorem d_N_init_0 : decode mi_N_init.2.1 0 = .ok (.aload_n 0, 1) := by decide +kernel
theorem d_N_init_1 : decode mi_N_init.2.1 1 = .ok (.invokespecial 3, 3) := by decide +kernel
theorem d_N_init_4 : decode mi_N_init.2.1 4 = .ok (.aload_n 0, 1) := by decide +kernel
theorem d_N_init_5 : decode mi_N_init.2.1 5 = .ok (.bipush (80), 2) := by decide +kernel
theorem d_N_init_7 : decode mi_N_init.2.1 7 = .ok (.newarray .char, 2) := by decide +kernel
theorem d_N_init_9 : decode mi_N_init.2.1 9 = .ok (.putfield 9, 3) := by decide +kernel
theorem d_N_init_12 : decode mi_N_init.2.1 12 = .ok (.aload_n 0, 1) := by decide +kernel
theorem d_N_init_13 : decode mi_N_init.2.1 13 = .ok (.bipush (80), 2) := by decide +kernel
theorem d_N_init_15 : decode mi_N_init.2.1 15 = .ok (.newarray .int, 2) := by decide +kernel
theorem d_N_init_17 : decode mi_N_init.2.1 17 = .ok (.putfield 15, 3) := by decide +kernel
theorem d_N_init_20 : decode mi_N_init.2.1 20 = .ok (.aload_n 0, 1) := by decide +kernel
theorem d_N_init_21 : decode mi_N_init.2.1 21 = .ok (.bipush (80), 2) := by decide +kernel
theorem d_N_init_23 : decode mi_N_init.2.1 23 = .ok (.newarray .int, 2) := by decide +kernel
theorem d_N_init_25 : decode mi_N_init.2.1 25 = .ok (.putfield 19, 3) := by decide +kernel
theorem d_N_init_28 : decode mi_N_init.2.1 28 = .ok (.aload_n 0, 1) := by decide +kernel
theorem d_N_init_29 : decode mi_N_init.2.1 29 = .ok (.bipush (80), 2) := by decide +kernel
theorem d_N_init_31 : decode mi_N_init.2.1 31 = .ok (.newarray .int, 2) := by decide +kernel
theorem d_N_init_33 : decode mi_N_init.2.1 33 = .ok (.putfield 22, 3) := by decide +kernel
theorem d_N_init_36 : decode mi_N_init.2.1 36 = .ok (.aload_n 0, 1) := by decide +kernel
theorem d_N_init_37 : decode mi_N_init.2.1 37 = .ok (.bipush (80), 2) := by decide +kernel
theorem d_N_init_39 : decode mi_N_init.2.1 39 = .ok (.newarray .int, 2) := by decide +kernel
theorem d_N_init_41 : decode mi_N_init.2.1 41 = .ok (.putfield 25, 3) := by decide +kernel
theorem d_N_init_44 : decode mi_N_init.2.1 44 = .ok (.aload_n 0, 1) := by decide +kernel
theorem d_N_init_45 : decode mi_N_init.2.1 45 = .ok (.bipush (80), 2) := by decide +kernel
theorem d_N_init_47 : decode mi_N_init.2.1 47 = .ok (.newarray .int, 2) := by decide +kernel
theorem d_N_init_49 : decode mi_N_init.2.1 49 = .ok (.putfield 28, 3) := by decide +kernel
theorem d_N_init_52 : decode mi_N_init.2.1 52 = .ok (.aload_n 0, 1) := by decide +kernel
theorem d_N_init_53 : decode mi_N_init.2.1 53 = .ok (.bipush (8), 2) := by decide +kernel
theorem d_N_init_55 : decode mi_N_init.2.1 55 = .ok (.newarray .int, 2) := by decide +kernel
theorem d_N_init_57 : decode mi_N_init.2.1 57 = .ok (.putfield 31, 3) := by decide +kernel
theorem d_N_init_60 : decode mi_N_init.2.1 60 = .ok (.aload_n 0, 1) := by decide +kernel
theorem d_N_init_61 : decode mi_N_init.2.1 61 = .ok (.iconst (2), 1) := by decide +kernel
theorem d_N_init_62 : decode mi_N_init.2.1 62 = .ok (.newarray .int, 2) := by decide +kernel
theorem d_N_init_64 : decode mi_N_init.2.1 64 = .ok (.putfield 34, 3) := by decide +kernel
theorem d_N_init_67 : decode mi_N_init.2.1 67 = .ok (.aload_n 0, 1) := by decide +kernel
theorem d_N_init_68 : decode mi_N_init.2.1 68 = .ok (.iconst (2), 1) := by decide +kernel
theorem d_N_init_69 : decode mi_N_init.2.1 69 = .ok (.newarray .int, 2) := by decide +kernel
theorem d_N_init_71 : decode mi_N_init.2.1 71 = .ok (.putfield 37, 3) := by decide +kernel
theorem d_N_init_74 : decode mi_N_init.2.1 74 = .ok (.aload_n 0, 1) := by decide +kernel
theorem d_N_init_75 : decode mi_N_init.2.1 75 = .ok (.bipush (14), 2) := by decide +kernel
theorem d_N_init_77 : decode mi_N_init.2.1 77 = .ok (.newarray .int, 2) := by decide +kernel
theorem d_N_init_79 : decode mi_N_init.2.1 79 = .ok (.putfield 40, 3) := by decide +kernel
theorem d_N_init_82 : decode mi_N_init.2.1 82 = .ok (.aload_n 0, 1) := by decide +kernel
theorem d_N_init_83 : decode mi_N_init.2.1 83 = .ok (.bipush (80), 2) := by decide +kernel
theorem d_N_init_85 : decode mi_N_init.2.1 85 = .ok (.newarray .int, 2) := by decide +kernel
theorem d_N_init_87 : decode mi_N_init.2.1 87 = .ok (.putfield 43, 3) := by decide +kernel
theorem d_N_init_90 : decode mi_N_init.2.1 90 = .ok (.aload_n 0, 1) := by decide +kernel
theorem d_N_init_91 : decode mi_N_init.2.1 91 = .ok (.iconst (0), 1) := by decide +kernel
theorem d_N_init_92 : decode mi_N_init.2.1 92 = .ok (.putfield 46, 3) := by decide +kernel
theorem d_N_init_95 : decode mi_N_init.2.1 95 = .ok (.aload_n 0, 1) := by decide +kernel
theorem d_N_init_96 : decode mi_N_init.2.1 96 = .ok (.iconst (0), 1) := by decide +kernel
theorem d_N_init_97 : decode mi_N_init.2.1 97 = .ok (.putfield 50, 3) := by decide +kernel
theorem d_N_init_100 : decode mi_N_init.2.1 100 = .ok (.return_, 1) := by decide +kernel
theorem s_N_init_1 : kObj TT cl6 X mi_N_init 1 := k_obj (index := 3) d_N_init_1 t_1_43 t_1_36 t_1_37
theorem s_N_init_9 : kPut TT cl6 X mi_N_init 9 1 0 (.array .char) := k_putF (index := 9) cK_1 d_N_init_9 (by decide) t_1_44 rfl rfl rfl
theorem s_N_init_17 : kPut TT cl6 X mi_N_init 17 1 1 (.array .int) := k_putF (index := 15) cK_1 d_N_init_17 (by decide) t_1_45 rfl rfl rfl
theorem s_N_init_25 : kPut TT cl6 X mi_N_init 25 1 2 (.array .int) := k_putF (index := 19) cK_1 d_N_init_25 (by decide) t_1_46 rfl rfl rfl
theorem s_N_init_33 : kPut TT cl6 X mi_N_init 33 1 3 (.array .int) := k_putF (index := 22) cK_1 d_N_init_33 (by decide) t_1_47 rfl rfl rfl
theorem s_N_init_41 : kPut TT cl6 X mi_N_init 41 1 4 (.array .int) := k_putF (index := 25) cK_1 d_N_init_41 (by decide) t_1_48 rfl rfl rfl
theorem s_N_init_49 : kPut TT cl6 X mi_N_init 49 1 5 (.array .int) := k_putF (index := 28) cK_1 d_N_init_49 (by decide) t_1_49 rfl rfl rfl
theorem s_N_init_57 : kPut TT cl6 X mi_N_init 57 1 6 (.array .int) := k_putF (index := 31) cK_1 d_N_init_57 (by decide) t_1_50 rfl rfl rfl
theorem s_N_init_64 : kPut TT cl6 X mi_N_init 64 1 7 (.array .int) := k_putF (index := 34) cK_1 d_N_init_64 (by decide) t_1_51 rfl rfl rfl
theorem s_N_init_71 : kPut TT cl6 X mi_N_init 71 1 8 (.array .int) := k_putF (index := 37) cK_1 d_N_init_71 (by decide) t_1_52 rfl rfl rfl
theorem s_N_init_79 : kPut TT cl6 X mi_N_init 79 1 9 (.array .int) := k_putF (index := 40) cK_1 d_N_init_79 (by decide) t_1_53 rfl rfl rfl
theorem s_N_init_87 : kPut TT cl6 X mi_N_init 87 1 10 (.array .int) := k_putF (index := 43) cK_1 d_N_init_87 (by decide) t_1_54 rfl rfl rfl
theorem s_N_init_92 : kPut TT cl6 X mi_N_init 92 1 11 .int := k_put (index := 46) cK_1 d_N_init_92 (by decide) ⟨"Miterhouse$Nets", Or.inl t_1_56, Or.inl rfl⟩ rfl
theorem s_N_init_97 : kPut TT cl6 X mi_N_init 97 1 12 .int := k_put (index := 50) cK_1 d_N_init_97 (by decide) ⟨"Miterhouse$Nets", Or.inl t_1_62, Or.inl rfl⟩ rfl
theorem d_N_addCell_0 : decode mi_N_addCell.2.1 0 = .ok (.aload_n 0, 1) := by decide +kernel
theorem d_N_addCell_1 : decode mi_N_addCell.2.1 1 = .ok (.getfield 25, 3) := by decide +kernel
theorem d_N_addCell_4 : decode mi_N_addCell.2.1 4 = .ok (.aload_n 0, 1) := by decide +kernel
theorem d_N_addCell_5 : decode mi_N_addCell.2.1 5 = .ok (.getfield 46, 3) := by decide +kernel
theorem d_N_addCell_8 : decode mi_N_addCell.2.1 8 = .ok (.iload_n 2, 1) := by decide +kernel
theorem d_N_addCell_9 : decode mi_N_addCell.2.1 9 = .ok (.invokestatic 83, 3) := by decide +kernel
theorem d_N_addCell_12 : decode mi_N_addCell.2.1 12 = .ok (.aload_n 0, 1) := by decide +kernel
theorem d_N_addCell_13 : decode mi_N_addCell.2.1 13 = .ok (.getfield 28, 3) := by decide +kernel
theorem d_N_addCell_16 : decode mi_N_addCell.2.1 16 = .ok (.aload_n 0, 1) := by decide +kernel
theorem d_N_addCell_17 : decode mi_N_addCell.2.1 17 = .ok (.getfield 46, 3) := by decide +kernel
theorem d_N_addCell_20 : decode mi_N_addCell.2.1 20 = .ok (.iload_n 3, 1) := by decide +kernel
theorem d_N_addCell_21 : decode mi_N_addCell.2.1 21 = .ok (.invokestatic 83, 3) := by decide +kernel
theorem d_N_addCell_24 : decode mi_N_addCell.2.1 24 = .ok (.aload_n 0, 1) := by decide +kernel
theorem d_N_addCell_25 : decode mi_N_addCell.2.1 25 = .ok (.getfield 37, 3) := by decide +kernel
theorem d_N_addCell_28 : decode mi_N_addCell.2.1 28 = .ok (.iload_n 1, 1) := by decide +kernel
theorem d_N_addCell_29 : decode mi_N_addCell.2.1 29 = .ok (.aload_n 0, 1) := by decide +kernel
theorem d_N_addCell_30 : decode mi_N_addCell.2.1 30 = .ok (.iload_n 1, 1) := by decide +kernel
theorem d_N_addCell_31 : decode mi_N_addCell.2.1 31 = .ok (.invokevirtual 61, 3) := by decide +kernel
theorem d_N_addCell_34 : decode mi_N_addCell.2.1 34 = .ok (.iconst (1), 1) := by decide +kernel
theorem d_N_addCell_35 : decode mi_N_addCell.2.1 35 = .ok (.iadd, 1) := by decide +kernel
theorem d_N_addCell_36 : decode mi_N_addCell.2.1 36 = .ok (.invokestatic 83, 3) := by decide +kernel
theorem d_N_addCell_39 : decode mi_N_addCell.2.1 39 = .ok (.aload_n 0, 1) := by decide +kernel
theorem d_N_addCell_40 : decode mi_N_addCell.2.1 40 = .ok (.iload_n 1, 1) := by decide +kernel
theorem d_N_addCell_41 : decode mi_N_addCell.2.1 41 = .ok (.bipush (99), 2) := by decide +kernel
theorem d_N_addCell_43 : decode mi_N_addCell.2.1 43 = .ok (.iconst (-1), 1) := by decide +kernel
theorem d_N_addCell_44 : decode mi_N_addCell.2.1 44 = .ok (.iconst (-1), 1) := by decide +kernel
theorem d_N_addCell_45 : decode mi_N_addCell.2.1 45 = .ok (.invokevirtual 79, 3) := by decide +kernel
theorem d_N_addCell_48 : decode mi_N_addCell.2.1 48 = .ok (.ireturn, 1) := by decide +kernel
theorem s_N_addCell_1 : kGet TT cl6 X mi_N_addCell 1 1 4 := k_get (index := 25) cK_1 d_N_addCell_1 (by decide) ⟨"Miterhouse$Nets", Or.inl t_1_48, Or.inl rfl⟩
theorem s_N_addCell_5 : kGet TT cl6 X mi_N_addCell 5 1 11 := k_get (index := 46) cK_1 d_N_addCell_5 (by decide) ⟨"Miterhouse$Nets", Or.inl t_1_56, Or.inl rfl⟩
theorem s_N_addCell_9 : kCall TT cl6 X mi_N_addCell 9 3 mi_M_putNumber 4 3 0 := k_staticN (index := 83) d_N_addCell_9 cs_M_putNumber rfl t_2_215 t_1_184
theorem s_N_addCell_13 : kGet TT cl6 X mi_N_addCell 13 1 5 := k_get (index := 28) cK_1 d_N_addCell_13 (by decide) ⟨"Miterhouse$Nets", Or.inl t_1_49, Or.inl rfl⟩
theorem s_N_addCell_17 : kGet TT cl6 X mi_N_addCell 17 1 11 := k_get (index := 46) cK_1 d_N_addCell_17 (by decide) ⟨"Miterhouse$Nets", Or.inl t_1_56, Or.inl rfl⟩
theorem s_N_addCell_21 : kCall TT cl6 X mi_N_addCell 21 3 mi_M_putNumber 4 3 0 := k_staticN (index := 83) d_N_addCell_21 cs_M_putNumber rfl t_2_215 t_1_184
theorem s_N_addCell_25 : kGet TT cl6 X mi_N_addCell 25 1 8 := k_get (index := 37) cK_1 d_N_addCell_25 (by decide) ⟨"Miterhouse$Nets", Or.inl t_1_52, Or.inl rfl⟩
theorem s_N_addCell_31 : kCall TT cl6 X mi_N_addCell 31 3 mi_N_cellsOf 2 2 1 := k_virtual (index := 61) d_N_addCell_31 cs_N_cellsOf rfl rfl t_2_216 t_2_192 t_2_193
theorem s_N_addCell_36 : kCall TT cl6 X mi_N_addCell 36 3 mi_M_putNumber 4 3 0 := k_staticN (index := 83) d_N_addCell_36 cs_M_putNumber rfl t_2_215 t_1_184
theorem s_N_addCell_45 : kCall TT cl6 X mi_N_addCell 45 3 mi_N_addLine 2 5 1 := k_virtual (index := 79) d_N_addCell_45 cs_N_addLine rfl rfl t_2_217 t_2_219 ts_16
theorem d_N_addGate_0 : decode mi_N_addGate.2.1 0 = .ok (.aload_n 0, 1) := by decide +kernel
theorem d_N_addGate_1 : decode mi_N_addGate.2.1 1 = .ok (.iload_n 1, 1) := by decide +kernel
theorem d_N_addGate_2 : decode mi_N_addGate.2.1 2 = .ok (.iload_n 2, 1) := by decide +kernel
theorem d_N_addGate_3 : decode mi_N_addGate.2.1 3 = .ok (.iload_n 3, 1) := by decide +kernel
theorem d_N_addGate_4 : decode mi_N_addGate.2.1 4 = .ok (.iload 4, 2) := by decide +kernel
theorem d_N_addGate_6 : decode mi_N_addGate.2.1 6 = .ok (.invokevirtual 79, 3) := by decide +kernel
theorem d_N_addGate_9 : decode mi_N_addGate.2.1 9 = .ok (.ireturn, 1) := by decide +kernel
theorem s_N_addGate_6 : kCall TT cl6 X mi_N_addGate 6 3 mi_N_addLine 2 5 1 := k_virtual (index := 79) d_N_addGate_6 cs_N_addLine rfl rfl t_2_217 t_2_219 ts_16
theorem d_N_addInput_0 : decode mi_N_addInput.2.1 0 = .ok (.aload_n 0, 1) := by decide +kernel
theorem d_N_addInput_1 : decode mi_N_addInput.2.1 1 = .ok (.dup, 1) := by decide +kernel
theorem d_N_addInput_2 : decode mi_N_addInput.2.1 2 = .ok (.getfield 50, 3) := by decide +kernel
theorem d_N_addInput_5 : decode mi_N_addInput.2.1 5 = .ok (.iconst (1), 1) := by decide +kernel
theorem d_N_addInput_6 : decode mi_N_addInput.2.1 6 = .ok (.iadd, 1) := by decide +kernel
theorem d_N_addInput_7 : decode mi_N_addInput.2.1 7 = .ok (.putfield 50, 3) := by decide +kernel
theorem d_N_addInput_10 : decode mi_N_addInput.2.1 10 = .ok (.aload_n 0, 1) := by decide +kernel
theorem d_N_addInput_11 : decode mi_N_addInput.2.1 11 = .ok (.iconst (2), 1) := by decide +kernel
theorem d_N_addInput_12 : decode mi_N_addInput.2.1 12 = .ok (.bipush (105), 2) := by decide +kernel
theorem d_N_addInput_14 : decode mi_N_addInput.2.1 14 = .ok (.iconst (-1), 1) := by decide +kernel
theorem d_N_addInput_15 : decode mi_N_addInput.2.1 15 = .ok (.iconst (-1), 1) := by decide +kernel
theorem d_N_addInput_16 : decode mi_N_addInput.2.1 16 = .ok (.invokevirtual 79, 3) := by decide +kernel
theorem d_N_addInput_19 : decode mi_N_addInput.2.1 19 = .ok (.ireturn, 1) := by decide +kernel
theorem s_N_addInput_2 : kGet TT cl6 X mi_N_addInput 2 1 12 := k_get (index := 50) cK_1 d_N_addInput_2 (by decide) ⟨"Miterhouse$Nets", Or.inl t_1_62, Or.inl rfl⟩
theorem s_N_addInput_7 : kPut TT cl6 X mi_N_addInput 7 1 12 .int := k_put (index := 50) cK_1 d_N_addInput_7 (by decide) ⟨"Miterhouse$Nets", Or.inl t_1_62, Or.inl rfl⟩ rfl
theorem s_N_addInput_16 : kCall TT cl6 X mi_N_addInput 16 3 mi_N_addLine 2 5 1 := k_virtual (index := 79) d_N_addInput_16 cs_N_addLine rfl rfl t_2_217 t_2_219 ts_16
theorem d_N_addLine_0 : decode mi_N_addLine.2.1 0 = .ok (.aload_n 0, 1) := by decide +kernel
theorem d_N_addLine_1 : decode mi_N_addLine.2.1 1 = .ok (.getfield 46, 3) := by decide +kernel
theorem d_N_addLine_4 : decode mi_N_addLine.2.1 4 = .ok (.istore 5, 2) := by decide +kernel
theorem d_N_addLine_6 : decode mi_N_addLine.2.1 6 = .ok (.iload 5, 2) := by decide +kernel
theorem d_N_addLine_8 : decode mi_N_addLine.2.1 8 = .ok (.aload_n 0, 1) := by decide +kernel
theorem d_N_addLine_9 : decode mi_N_addLine.2.1 9 = .ok (.getfield 9, 3) := by decide +kernel
theorem d_N_addLine_12 : decode mi_N_addLine.2.1 12 = .ok (.arraylength, 1) := by decide +kernel
theorem d_N_addLine_13 : decode mi_N_addLine.2.1 13 = .ok (.if_icmp .ge (11), 3) := by decide +kernel
theorem d_N_addLine_16 : decode mi_N_addLine.2.1 16 = .ok (.aload_n 0, 1) := by decide +kernel
theorem d_N_addLine_17 : decode mi_N_addLine.2.1 17 = .ok (.getfield 9, 3) := by decide +kernel
theorem d_N_addLine_20 : decode mi_N_addLine.2.1 20 = .ok (.iload 5, 2) := by decide +kernel
theorem d_N_addLine_22 : decode mi_N_addLine.2.1 22 = .ok (.iload_n 2, 1) := by decide +kernel
theorem d_N_addLine_23 : decode mi_N_addLine.2.1 23 = .ok (.castore, 1) := by decide +kernel
theorem d_N_addLine_24 : decode mi_N_addLine.2.1 24 = .ok (.aload_n 0, 1) := by decide +kernel
theorem d_N_addLine_25 : decode mi_N_addLine.2.1 25 = .ok (.getfield 15, 3) := by decide +kernel
theorem d_N_addLine_28 : decode mi_N_addLine.2.1 28 = .ok (.iload 5, 2) := by decide +kernel
theorem d_N_addLine_30 : decode mi_N_addLine.2.1 30 = .ok (.iload_n 1, 1) := by decide +kernel
theorem d_N_addLine_31 : decode mi_N_addLine.2.1 31 = .ok (.invokestatic 83, 3) := by decide +kernel
theorem d_N_addLine_34 : decode mi_N_addLine.2.1 34 = .ok (.aload_n 0, 1) := by decide +kernel
theorem d_N_addLine_35 : decode mi_N_addLine.2.1 35 = .ok (.getfield 19, 3) := by decide +kernel
theorem d_N_addLine_38 : decode mi_N_addLine.2.1 38 = .ok (.iload 5, 2) := by decide +kernel
theorem d_N_addLine_40 : decode mi_N_addLine.2.1 40 = .ok (.iload_n 3, 1) := by decide +kernel
theorem d_N_addLine_41 : decode mi_N_addLine.2.1 41 = .ok (.invokestatic 83, 3) := by decide +kernel
theorem d_N_addLine_44 : decode mi_N_addLine.2.1 44 = .ok (.aload_n 0, 1) := by decide +kernel
theorem d_N_addLine_45 : decode mi_N_addLine.2.1 45 = .ok (.getfield 22, 3) := by decide +kernel
theorem d_N_addLine_48 : decode mi_N_addLine.2.1 48 = .ok (.iload 5, 2) := by decide +kernel
theorem d_N_addLine_50 : decode mi_N_addLine.2.1 50 = .ok (.iload 4, 2) := by decide +kernel
theorem d_N_addLine_52 : decode mi_N_addLine.2.1 52 = .ok (.invokestatic 83, 3) := by decide +kernel
theorem d_N_addLine_55 : decode mi_N_addLine.2.1 55 = .ok (.aload_n 0, 1) := by decide +kernel
theorem d_N_addLine_56 : decode mi_N_addLine.2.1 56 = .ok (.iload 5, 2) := by decide +kernel
theorem d_N_addLine_58 : decode mi_N_addLine.2.1 58 = .ok (.iconst (1), 1) := by decide +kernel
theorem d_N_addLine_59 : decode mi_N_addLine.2.1 59 = .ok (.iadd, 1) := by decide +kernel
theorem d_N_addLine_60 : decode mi_N_addLine.2.1 60 = .ok (.putfield 46, 3) := by decide +kernel
theorem d_N_addLine_63 : decode mi_N_addLine.2.1 63 = .ok (.iload 5, 2) := by decide +kernel
theorem d_N_addLine_65 : decode mi_N_addLine.2.1 65 = .ok (.ireturn, 1) := by decide +kernel
theorem s_N_addLine_1 : kGet TT cl6 X mi_N_addLine 1 1 11 := k_get (index := 46) cK_1 d_N_addLine_1 (by decide) ⟨"Miterhouse$Nets", Or.inl t_1_56, Or.inl rfl⟩
theorem s_N_addLine_9 : kGet TT cl6 X mi_N_addLine 9 1 0 := k_get (index := 9) cK_1 d_N_addLine_9 (by decide) ⟨"Miterhouse$Nets", Or.inl t_1_44, Or.inl rfl⟩
theorem s_N_addLine_17 : kGet TT cl6 X mi_N_addLine 17 1 0 := k_get (index := 9) cK_1 d_N_addLine_17 (by decide) ⟨"Miterhouse$Nets", Or.inl t_1_44, Or.inl rfl⟩
theorem s_N_addLine_25 : kGet TT cl6 X mi_N_addLine 25 1 1 := k_get (index := 15) cK_1 d_N_addLine_25 (by decide) ⟨"Miterhouse$Nets", Or.inl t_1_45, Or.inl rfl⟩
theorem s_N_addLine_31 : kCall TT cl6 X mi_N_addLine 31 3 mi_M_putNumber 4 3 0 := k_staticN (index := 83) d_N_addLine_31 cs_M_putNumber rfl t_2_215 t_1_184
theorem s_N_addLine_35 : kGet TT cl6 X mi_N_addLine 35 1 2 := k_get (index := 19) cK_1 d_N_addLine_35 (by decide) ⟨"Miterhouse$Nets", Or.inl t_1_46, Or.inl rfl⟩
theorem s_N_addLine_41 : kCall TT cl6 X mi_N_addLine 41 3 mi_M_putNumber 4 3 0 := k_staticN (index := 83) d_N_addLine_41 cs_M_putNumber rfl t_2_215 t_1_184
theorem s_N_addLine_45 : kGet TT cl6 X mi_N_addLine 45 1 3 := k_get (index := 22) cK_1 d_N_addLine_45 (by decide) ⟨"Miterhouse$Nets", Or.inl t_1_47, Or.inl rfl⟩
theorem s_N_addLine_52 : kCall TT cl6 X mi_N_addLine 52 3 mi_M_putNumber 4 3 0 := k_staticN (index := 83) d_N_addLine_52 cs_M_putNumber rfl t_2_215 t_1_184
theorem s_N_addLine_60 : kPut TT cl6 X mi_N_addLine 60 1 11 .int := k_put (index := 46) cK_1 d_N_addLine_60 (by decide) ⟨"Miterhouse$Nets", Or.inl t_1_56, Or.inl rfl⟩ rfl
theorem d_N_addOutput_0 : decode mi_N_addOutput.2.1 0 = .ok (.aload_n 0, 1) := by decide +kernel
theorem d_N_addOutput_1 : decode mi_N_addOutput.2.1 1 = .ok (.iload_n 1, 1) := by decide +kernel
theorem d_N_addOutput_2 : decode mi_N_addOutput.2.1 2 = .ok (.invokevirtual 90, 3) := by decide +kernel
theorem d_N_addOutput_5 : decode mi_N_addOutput.2.1 5 = .ok (.istore_n 3, 1) := by decide +kernel
theorem d_N_addOutput_6 : decode mi_N_addOutput.2.1 6 = .ok (.aload_n 0, 1) := by decide +kernel
theorem d_N_addOutput_7 : decode mi_N_addOutput.2.1 7 = .ok (.getfield 31, 3) := by decide +kernel
theorem d_N_addOutput_10 : decode mi_N_addOutput.2.1 10 = .ok (.iload_n 1, 1) := by decide +kernel
theorem d_N_addOutput_11 : decode mi_N_addOutput.2.1 11 = .ok (.iconst (4), 1) := by decide +kernel
theorem d_N_addOutput_12 : decode mi_N_addOutput.2.1 12 = .ok (.imul, 1) := by decide +kernel
theorem d_N_addOutput_13 : decode mi_N_addOutput.2.1 13 = .ok (.iload_n 3, 1) := by decide +kernel
theorem d_N_addOutput_14 : decode mi_N_addOutput.2.1 14 = .ok (.iadd, 1) := by decide +kernel
theorem d_N_addOutput_15 : decode mi_N_addOutput.2.1 15 = .ok (.iload_n 2, 1) := by decide +kernel
theorem d_N_addOutput_16 : decode mi_N_addOutput.2.1 16 = .ok (.invokestatic 83, 3) := by decide +kernel
theorem d_N_addOutput_19 : decode mi_N_addOutput.2.1 19 = .ok (.aload_n 0, 1) := by decide +kernel
theorem d_N_addOutput_20 : decode mi_N_addOutput.2.1 20 = .ok (.getfield 34, 3) := by decide +kernel
theorem d_N_addOutput_23 : decode mi_N_addOutput.2.1 23 = .ok (.iload_n 1, 1) := by decide +kernel
theorem d_N_addOutput_24 : decode mi_N_addOutput.2.1 24 = .ok (.iload_n 3, 1) := by decide +kernel
theorem d_N_addOutput_25 : decode mi_N_addOutput.2.1 25 = .ok (.iconst (1), 1) := by decide +kernel
theorem d_N_addOutput_26 : decode mi_N_addOutput.2.1 26 = .ok (.iadd, 1) := by decide +kernel
theorem d_N_addOutput_27 : decode mi_N_addOutput.2.1 27 = .ok (.invokestatic 83, 3) := by decide +kernel
theorem d_N_addOutput_30 : decode mi_N_addOutput.2.1 30 = .ok (.iload_n 3, 1) := by decide +kernel
theorem d_N_addOutput_31 : decode mi_N_addOutput.2.1 31 = .ok (.ireturn, 1) := by decide +kernel
theorem s_N_addOutput_2 : kCall TT cl6 X mi_N_addOutput 2 3 mi_N_outputsOf 2 2 1 := k_virtual (index := 90) d_N_addOutput_2 cs_N_outputsOf rfl rfl t_3_83 t_1_134 t_1_135
theorem s_N_addOutput_7 : kGet TT cl6 X mi_N_addOutput 7 1 6 := k_get (index := 31) cK_1 d_N_addOutput_7 (by decide) ⟨"Miterhouse$Nets", Or.inl t_1_50, Or.inl rfl⟩
theorem s_N_addOutput_16 : kCall TT cl6 X mi_N_addOutput 16 3 mi_M_putNumber 4 3 0 := k_staticN (index := 83) d_N_addOutput_16 cs_M_putNumber rfl t_2_215 t_1_184
theorem s_N_addOutput_20 : kGet TT cl6 X mi_N_addOutput 20 1 7 := k_get (index := 34) cK_1 d_N_addOutput_20 (by decide) ⟨"Miterhouse$Nets", Or.inl t_1_51, Or.inl rfl⟩
theorem s_N_addOutput_27 : kCall TT cl6 X mi_N_addOutput 27 3 mi_M_putNumber 4 3 0 := k_staticN (index := 83) d_N_addOutput_27 cs_M_putNumber rfl t_2_215 t_1_184
theorem d_N_canBeClosed_0 : decode mi_N_canBeClosed.2.1 0 = .ok (.iconst (0), 1) := by decide +kernel
theorem d_N_canBeClosed_1 : decode mi_N_canBeClosed.2.1 1 = .ok (.istore_n 1, 1) := by decide +kernel
theorem d_N_canBeClosed_2 : decode mi_N_canBeClosed.2.1 2 = .ok (.iload_n 1, 1) := by decide +kernel
theorem d_N_canBeClosed_3 : decode mi_N_canBeClosed.2.1 3 = .ok (.aload_n 0, 1) := by decide +kernel
theorem d_N_canBeClosed_4 : decode mi_N_canBeClosed.2.1 4 = .ok (.getfield 46, 3) := by decide +kernel
theorem d_N_canBeClosed_7 : decode mi_N_canBeClosed.2.1 7 = .ok (.if_icmp .ge (27), 3) := by decide +kernel
theorem d_N_canBeClosed_10 : decode mi_N_canBeClosed.2.1 10 = .ok (.aload_n 0, 1) := by decide +kernel
theorem d_N_canBeClosed_11 : decode mi_N_canBeClosed.2.1 11 = .ok (.iload_n 1, 1) := by decide +kernel
theorem d_N_canBeClosed_12 : decode mi_N_canBeClosed.2.1 12 = .ok (.invokevirtual 68, 3) := by decide +kernel
theorem d_N_canBeClosed_15 : decode mi_N_canBeClosed.2.1 15 = .ok (.ifCond .eq (13), 3) := by decide +kernel
theorem d_N_canBeClosed_18 : decode mi_N_canBeClosed.2.1 18 = .ok (.aload_n 0, 1) := by decide +kernel
theorem d_N_canBeClosed_19 : decode mi_N_canBeClosed.2.1 19 = .ok (.iload_n 1, 1) := by decide +kernel
theorem d_N_canBeClosed_20 : decode mi_N_canBeClosed.2.1 20 = .ok (.invokevirtual 87, 3) := by decide +kernel
theorem d_N_canBeClosed_23 : decode mi_N_canBeClosed.2.1 23 = .ok (.ifCond .ge (5), 3) := by decide +kernel
theorem d_N_canBeClosed_26 : decode mi_N_canBeClosed.2.1 26 = .ok (.iconst (0), 1) := by decide +kernel
theorem d_N_canBeClosed_27 : decode mi_N_canBeClosed.2.1 27 = .ok (.ireturn, 1) := by decide +kernel
theorem d_N_canBeClosed_28 : decode mi_N_canBeClosed.2.1 28 = .ok (.iinc 1 (1), 3) := by decide +kernel
theorem d_N_canBeClosed_31 : decode mi_N_canBeClosed.2.1 31 = .ok (.goto (-29), 3) := by decide +kernel
theorem d_N_canBeClosed_34 : decode mi_N_canBeClosed.2.1 34 = .ok (.aload_n 0, 1) := by decide +kernel
theorem d_N_canBeClosed_35 : decode mi_N_canBeClosed.2.1 35 = .ok (.iconst (0), 1) := by decide +kernel
theorem d_N_canBeClosed_36 : decode mi_N_canBeClosed.2.1 36 = .ok (.invokevirtual 90, 3) := by decide +kernel
theorem d_N_canBeClosed_39 : decode mi_N_canBeClosed.2.1 39 = .ok (.aload_n 0, 1) := by decide +kernel
theorem d_N_canBeClosed_40 : decode mi_N_canBeClosed.2.1 40 = .ok (.iconst (1), 1) := by decide +kernel
theorem d_N_canBeClosed_41 : decode mi_N_canBeClosed.2.1 41 = .ok (.invokevirtual 90, 3) := by decide +kernel
theorem d_N_canBeClosed_44 : decode mi_N_canBeClosed.2.1 44 = .ok (.if_icmp .ne (16), 3) := by decide +kernel
theorem d_N_canBeClosed_47 : decode mi_N_canBeClosed.2.1 47 = .ok (.aload_n 0, 1) := by decide +kernel
theorem d_N_canBeClosed_48 : decode mi_N_canBeClosed.2.1 48 = .ok (.iconst (0), 1) := by decide +kernel
theorem d_N_canBeClosed_49 : decode mi_N_canBeClosed.2.1 49 = .ok (.invokevirtual 90, 3) := by decide +kernel
theorem d_N_canBeClosed_52 : decode mi_N_canBeClosed.2.1 52 = .ok (.iconst (1), 1) := by decide +kernel
theorem d_N_canBeClosed_53 : decode mi_N_canBeClosed.2.1 53 = .ok (.if_icmp .lt (7), 3) := by decide +kernel
theorem d_N_canBeClosed_56 : decode mi_N_canBeClosed.2.1 56 = .ok (.iconst (1), 1) := by decide +kernel
theorem d_N_canBeClosed_57 : decode mi_N_canBeClosed.2.1 57 = .ok (.goto (4), 3) := by decide +kernel
theorem d_N_canBeClosed_60 : decode mi_N_canBeClosed.2.1 60 = .ok (.iconst (0), 1) := by decide +kernel
theorem d_N_canBeClosed_61 : decode mi_N_canBeClosed.2.1 61 = .ok (.ireturn, 1) := by decide +kernel
theorem s_N_canBeClosed_4 : kGet TT cl6 X mi_N_canBeClosed 4 1 11 := k_get (index := 46) cK_1 d_N_canBeClosed_4 (by decide) ⟨"Miterhouse$Nets", Or.inl t_1_56, Or.inl rfl⟩
theorem s_N_canBeClosed_12 : kCall TT cl6 X mi_N_canBeClosed 12 3 mi_N_isCell 2 2 1 := k_virtual (index := 68) d_N_canBeClosed_12 cs_N_isCell rfl rfl t_2_174 t_2_175 t_2_176
theorem s_N_canBeClosed_20 : kCall TT cl6 X mi_N_canBeClosed 20 3 mi_N_dataOf 2 2 1 := k_virtual (index := 87) d_N_canBeClosed_20 cs_N_dataOf rfl rfl t_3_69 t_1_165 t_1_166
theorem s_N_canBeClosed_36 : kCall TT cl6 X mi_N_canBeClosed 36 3 mi_N_outputsOf 2 2 1 := k_virtual (index := 90) d_N_canBeClosed_36 cs_N_outputsOf rfl rfl t_3_83 t_1_134 t_1_135
theorem s_N_canBeClosed_41 : kCall TT cl6 X mi_N_canBeClosed 41 3 mi_N_outputsOf 2 2 1 := k_virtual (index := 90) d_N_canBeClosed_41 cs_N_outputsOf rfl rfl t_3_83 t_1_134 t_1_135
theorem s_N_canBeClosed_49 : kCall TT cl6 X mi_N_canBeClosed 49 3 mi_N_outputsOf 2 2 1 := k_virtual (index := 90) d_N_canBeClosed_49 cs_N_outputsOf rfl rfl t_3_83 t_1_134 t_1_135
theorem d_N_cellNamed_0 : decode mi_N_cellNamed.2.1 0 = .ok (.iconst (0), 1) := by decide +kernel
theorem d_N_cellNamed_1 : decode mi_N_cellNamed.2.1 1 = .ok (.istore_n 3, 1) := by decide +kernel
theorem d_N_cellNamed_2 : decode mi_N_cellNamed.2.1 2 = .ok (.iload_n 3, 1) := by decide +kernel
theorem d_N_cellNamed_3 : decode mi_N_cellNamed.2.1 3 = .ok (.aload_n 0, 1) := by decide +kernel
theorem d_N_cellNamed_4 : decode mi_N_cellNamed.2.1 4 = .ok (.getfield 46, 3) := by decide +kernel
theorem d_N_cellNamed_7 : decode mi_N_cellNamed.2.1 7 = .ok (.if_icmp .ge (37), 3) := by decide +kernel
theorem d_N_cellNamed_10 : decode mi_N_cellNamed.2.1 10 = .ok (.aload_n 0, 1) := by decide +kernel
theorem d_N_cellNamed_11 : decode mi_N_cellNamed.2.1 11 = .ok (.iload_n 3, 1) := by decide +kernel
theorem d_N_cellNamed_12 : decode mi_N_cellNamed.2.1 12 = .ok (.invokevirtual 68, 3) := by decide +kernel
theorem d_N_cellNamed_15 : decode mi_N_cellNamed.2.1 15 = .ok (.ifCond .eq (23), 3) := by decide +kernel
theorem d_N_cellNamed_18 : decode mi_N_cellNamed.2.1 18 = .ok (.aload_n 0, 1) := by decide +kernel
theorem d_N_cellNamed_19 : decode mi_N_cellNamed.2.1 19 = .ok (.iload_n 3, 1) := by decide +kernel
theorem d_N_cellNamed_20 : decode mi_N_cellNamed.2.1 20 = .ok (.invokevirtual 65, 3) := by decide +kernel
theorem d_N_cellNamed_23 : decode mi_N_cellNamed.2.1 23 = .ok (.iload_n 1, 1) := by decide +kernel
theorem d_N_cellNamed_24 : decode mi_N_cellNamed.2.1 24 = .ok (.if_icmp .ne (14), 3) := by decide +kernel
theorem d_N_cellNamed_27 : decode mi_N_cellNamed.2.1 27 = .ok (.aload_n 0, 1) := by decide +kernel
theorem d_N_cellNamed_28 : decode mi_N_cellNamed.2.1 28 = .ok (.iload_n 3, 1) := by decide +kernel
theorem d_N_cellNamed_29 : decode mi_N_cellNamed.2.1 29 = .ok (.invokevirtual 72, 3) := by decide +kernel
theorem d_N_cellNamed_32 : decode mi_N_cellNamed.2.1 32 = .ok (.iload_n 2, 1) := by decide +kernel
theorem d_N_cellNamed_33 : decode mi_N_cellNamed.2.1 33 = .ok (.if_icmp .ne (5), 3) := by decide +kernel
theorem d_N_cellNamed_36 : decode mi_N_cellNamed.2.1 36 = .ok (.iload_n 3, 1) := by decide +kernel
theorem d_N_cellNamed_37 : decode mi_N_cellNamed.2.1 37 = .ok (.ireturn, 1) := by decide +kernel
theorem d_N_cellNamed_38 : decode mi_N_cellNamed.2.1 38 = .ok (.iinc 3 (1), 3) := by decide +kernel
theorem d_N_cellNamed_41 : decode mi_N_cellNamed.2.1 41 = .ok (.goto (-39), 3) := by decide +kernel
theorem d_N_cellNamed_44 : decode mi_N_cellNamed.2.1 44 = .ok (.iconst (-1), 1) := by decide +kernel
theorem d_N_cellNamed_45 : decode mi_N_cellNamed.2.1 45 = .ok (.ireturn, 1) := by decide +kernel
theorem s_N_cellNamed_4 : kGet TT cl6 X mi_N_cellNamed 4 1 11 := k_get (index := 46) cK_1 d_N_cellNamed_4 (by decide) ⟨"Miterhouse$Nets", Or.inl t_1_56, Or.inl rfl⟩
theorem s_N_cellNamed_12 : kCall TT cl6 X mi_N_cellNamed 12 3 mi_N_isCell 2 2 1 := k_virtual (index := 68) d_N_cellNamed_12 cs_N_isCell rfl rfl t_2_174 t_2_175 t_2_176
theorem s_N_cellNamed_20 : kCall TT cl6 X mi_N_cellNamed 20 3 mi_N_ownerOf 2 2 1 := k_virtual (index := 65) d_N_cellNamed_20 cs_N_ownerOf rfl rfl t_2_182 t_2_183 t_2_184
theorem s_N_cellNamed_29 : kCall TT cl6 X mi_N_cellNamed 29 3 mi_N_nameOf 2 2 1 := k_virtual (index := 72) d_N_cellNamed_29 cs_N_nameOf rfl rfl t_2_186 t_2_187 t_2_188
theorem d_N_cellsOf_0 : decode mi_N_cellsOf.2.1 0 = .ok (.aload_n 0, 1) := by decide +kernel
theorem d_N_cellsOf_1 : decode mi_N_cellsOf.2.1 1 = .ok (.getfield 37, 3) := by decide +kernel
theorem d_N_cellsOf_4 : decode mi_N_cellsOf.2.1 4 = .ok (.iload_n 1, 1) := by decide +kernel
theorem d_N_cellsOf_5 : decode mi_N_cellsOf.2.1 5 = .ok (.invokestatic 57, 3) := by decide +kernel
theorem d_N_cellsOf_8 : decode mi_N_cellsOf.2.1 8 = .ok (.ireturn, 1) := by decide +kernel
theorem s_N_cellsOf_1 : kGet TT cl6 X mi_N_cellsOf 1 1 8 := k_get (index := 37) cK_1 d_N_cellsOf_1 (by decide) ⟨"Miterhouse$Nets", Or.inl t_1_52, Or.inl rfl⟩
theorem s_N_cellsOf_5 : kCall TT cl6 X mi_N_cellsOf 5 3 mi_M_numberAt 4 2 0 := k_staticN (index := 57) d_N_cellsOf_5 cs_M_numberAt rfl t_1_137 t_1_138
theorem d_N_changeData_0 : decode mi_N_changeData.2.1 0 = .ok (.aload_n 0, 1) := by decide +kernel
theorem d_N_changeData_1 : decode mi_N_changeData.2.1 1 = .ok (.iload_n 1, 1) := by decide +kernel
theorem d_N_changeData_2 : decode mi_N_changeData.2.1 2 = .ok (.invokevirtual 87, 3) := by decide +kernel
theorem d_N_changeData_5 : decode mi_N_changeData.2.1 5 = .ok (.istore_n 3, 1) := by decide +kernel
theorem d_N_changeData_6 : decode mi_N_changeData.2.1 6 = .ok (.aload_n 0, 1) := by decide +kernel
theorem d_N_changeData_7 : decode mi_N_changeData.2.1 7 = .ok (.getfield 19, 3) := by decide +kernel
theorem d_N_changeData_10 : decode mi_N_changeData.2.1 10 = .ok (.iload_n 1, 1) := by decide +kernel
theorem d_N_changeData_11 : decode mi_N_changeData.2.1 11 = .ok (.iload_n 2, 1) := by decide +kernel
theorem d_N_changeData_12 : decode mi_N_changeData.2.1 12 = .ok (.invokestatic 83, 3) := by decide +kernel
theorem d_N_changeData_15 : decode mi_N_changeData.2.1 15 = .ok (.iload_n 3, 1) := by decide +kernel
theorem d_N_changeData_16 : decode mi_N_changeData.2.1 16 = .ok (.ireturn, 1) := by decide +kernel
theorem s_N_changeData_2 : kCall TT cl6 X mi_N_changeData 2 3 mi_N_dataOf 2 2 1 := k_virtual (index := 87) d_N_changeData_2 cs_N_dataOf rfl rfl t_3_69 t_1_165 t_1_166
theorem s_N_changeData_7 : kGet TT cl6 X mi_N_changeData 7 1 2 := k_get (index := 19) cK_1 d_N_changeData_7 (by decide) ⟨"Miterhouse$Nets", Or.inl t_1_46, Or.inl rfl⟩
theorem s_N_changeData_12 : kCall TT cl6 X mi_N_changeData 12 3 mi_M_putNumber 4 3 0 := k_staticN (index := 83) d_N_changeData_12 cs_M_putNumber rfl t_2_215 t_1_184
theorem d_N_dataOf_0 : decode mi_N_dataOf.2.1 0 = .ok (.aload_n 0, 1) := by decide +kernel
theorem d_N_dataOf_1 : decode mi_N_dataOf.2.1 1 = .ok (.getfield 19, 3) := by decide +kernel
theorem d_N_dataOf_4 : decode mi_N_dataOf.2.1 4 = .ok (.iload_n 1, 1) := by decide +kernel
theorem d_N_dataOf_5 : decode mi_N_dataOf.2.1 5 = .ok (.invokestatic 57, 3) := by decide +kernel
theorem d_N_dataOf_8 : decode mi_N_dataOf.2.1 8 = .ok (.ireturn, 1) := by decide +kernel
theorem s_N_dataOf_1 : kGet TT cl6 X mi_N_dataOf 1 1 2 := k_get (index := 19) cK_1 d_N_dataOf_1 (by decide) ⟨"Miterhouse$Nets", Or.inl t_1_46, Or.inl rfl⟩
theorem s_N_dataOf_5 : kCall TT cl6 X mi_N_dataOf 5 3 mi_M_numberAt 4 2 0 := k_staticN (index := 57) d_N_dataOf_5 cs_M_numberAt rfl t_1_137 t_1_138
theorem d_N_dependsOnCell_0 : decode mi_N_dependsOnCell.2.1 0 = .ok (.iconst (0), 1) := by decide +kernel
theorem d_N_dependsOnCell_1 : decode mi_N_dependsOnCell.2.1 1 = .ok (.istore_n 2, 1) := by decide +kernel
theorem d_N_dependsOnCell_2 : decode mi_N_dependsOnCell.2.1 2 = .ok (.iload_n 2, 1) := by decide +kernel
theorem d_N_dependsOnCell_3 : decode mi_N_dependsOnCell.2.1 3 = .ok (.iload_n 1, 1) := by decide +kernel
theorem d_N_dependsOnCell_4 : decode mi_N_dependsOnCell.2.1 4 = .ok (.if_icmp .gt (38), 3) := by decide +kernel
theorem d_N_dependsOnCell_7 : decode mi_N_dependsOnCell.2.1 7 = .ok (.aload_n 0, 1) := by decide +kernel
theorem d_N_dependsOnCell_8 : decode mi_N_dependsOnCell.2.1 8 = .ok (.getfield 43, 3) := by decide +kernel
theorem d_N_dependsOnCell_11 : decode mi_N_dependsOnCell.2.1 11 = .ok (.iload_n 2, 1) := by decide +kernel
theorem d_N_dependsOnCell_12 : decode mi_N_dependsOnCell.2.1 12 = .ok (.aload_n 0, 1) := by decide +kernel
theorem d_N_dependsOnCell_13 : decode mi_N_dependsOnCell.2.1 13 = .ok (.iload_n 2, 1) := by decide +kernel
theorem d_N_dependsOnCell_14 : decode mi_N_dependsOnCell.2.1 14 = .ok (.invokevirtual 68, 3) := by decide +kernel
theorem d_N_dependsOnCell_17 : decode mi_N_dependsOnCell.2.1 17 = .ok (.ifCond .ne (11), 3) := by decide +kernel
theorem d_N_dependsOnCell_20 : decode mi_N_dependsOnCell.2.1 20 = .ok (.aload_n 0, 1) := by decide +kernel
theorem d_N_dependsOnCell_21 : decode mi_N_dependsOnCell.2.1 21 = .ok (.iload_n 2, 1) := by decide +kernel
theorem d_N_dependsOnCell_22 : decode mi_N_dependsOnCell.2.1 22 = .ok (.invokevirtual 103, 3) := by decide +kernel
theorem d_N_dependsOnCell_25 : decode mi_N_dependsOnCell.2.1 25 = .ok (.ifCond .eq (7), 3) := by decide +kernel
theorem d_N_dependsOnCell_28 : decode mi_N_dependsOnCell.2.1 28 = .ok (.iconst (1), 1) := by decide +kernel
theorem d_N_dependsOnCell_29 : decode mi_N_dependsOnCell.2.1 29 = .ok (.goto (4), 3) := by decide +kernel
theorem d_N_dependsOnCell_32 : decode mi_N_dependsOnCell.2.1 32 = .ok (.iconst (0), 1) := by decide +kernel
theorem d_N_dependsOnCell_33 : decode mi_N_dependsOnCell.2.1 33 = .ok (.invokestatic 83, 3) := by decide +kernel
theorem d_N_dependsOnCell_36 : decode mi_N_dependsOnCell.2.1 36 = .ok (.iinc 2 (1), 3) := by decide +kernel
theorem d_N_dependsOnCell_39 : decode mi_N_dependsOnCell.2.1 39 = .ok (.goto (-37), 3) := by decide +kernel
theorem d_N_dependsOnCell_42 : decode mi_N_dependsOnCell.2.1 42 = .ok (.aload_n 0, 1) := by decide +kernel
theorem d_N_dependsOnCell_43 : decode mi_N_dependsOnCell.2.1 43 = .ok (.getfield 43, 3) := by decide +kernel
theorem d_N_dependsOnCell_46 : decode mi_N_dependsOnCell.2.1 46 = .ok (.iload_n 1, 1) := by decide +kernel
theorem d_N_dependsOnCell_47 : decode mi_N_dependsOnCell.2.1 47 = .ok (.invokestatic 57, 3) := by decide +kernel
theorem d_N_dependsOnCell_50 : decode mi_N_dependsOnCell.2.1 50 = .ok (.iconst (1), 1) := by decide +kernel
theorem d_N_dependsOnCell_51 : decode mi_N_dependsOnCell.2.1 51 = .ok (.if_icmp .ne (7), 3) := by decide +kernel
theorem d_N_dependsOnCell_54 : decode mi_N_dependsOnCell.2.1 54 = .ok (.iconst (1), 1) := by decide +kernel
theorem d_N_dependsOnCell_55 : decode mi_N_dependsOnCell.2.1 55 = .ok (.goto (4), 3) := by decide +kernel
theorem d_N_dependsOnCell_58 : decode mi_N_dependsOnCell.2.1 58 = .ok (.iconst (0), 1) := by decide +kernel
theorem d_N_dependsOnCell_59 : decode mi_N_dependsOnCell.2.1 59 = .ok (.ireturn, 1) := by decide +kernel
theorem s_N_dependsOnCell_8 : kGet TT cl6 X mi_N_dependsOnCell 8 1 10 := k_get (index := 43) cK_1 d_N_dependsOnCell_8 (by decide) ⟨"Miterhouse$Nets", Or.inl t_1_54, Or.inl rfl⟩
theorem s_N_dependsOnCell_14 : kCall TT cl6 X mi_N_dependsOnCell 14 3 mi_N_isCell 2 2 1 := k_virtual (index := 68) d_N_dependsOnCell_14 cs_N_isCell rfl rfl t_2_174 t_2_175 t_2_176
theorem s_N_dependsOnCell_22 : kCall TT cl6 X mi_N_dependsOnCell 22 3 mi_N_hasMarkedPin 2 2 1 := k_virtual (index := 103) d_N_dependsOnCell_22 cs_N_hasMarkedPin rfl rfl t_5_97 t_5_99 ts_25
theorem s_N_dependsOnCell_33 : kCall TT cl6 X mi_N_dependsOnCell 33 3 mi_M_putNumber 4 3 0 := k_staticN (index := 83) d_N_dependsOnCell_33 cs_M_putNumber rfl t_2_215 t_1_184
theorem s_N_dependsOnCell_43 : kGet TT cl6 X mi_N_dependsOnCell 43 1 10 := k_get (index := 43) cK_1 d_N_dependsOnCell_43 (by decide) ⟨"Miterhouse$Nets", Or.inl t_1_54, Or.inl rfl⟩
theorem s_N_dependsOnCell_47 : kCall TT cl6 X mi_N_dependsOnCell 47 3 mi_M_numberAt 4 2 0 := k_staticN (index := 57) d_N_dependsOnCell_47 cs_M_numberAt rfl t_1_137 t_1_138
theorem d_N_firstOf_0 : decode mi_N_firstOf.2.1 0 = .ok (.aload_n 0, 1) := by decide +kernel
theorem d_N_firstOf_1 : decode mi_N_firstOf.2.1 1 = .ok (.getfield 25, 3) := by decide +kernel
theorem d_N_firstOf_4 : decode mi_N_firstOf.2.1 4 = .ok (.iload_n 1, 1) := by decide +kernel
theorem d_N_firstOf_5 : decode mi_N_firstOf.2.1 5 = .ok (.invokestatic 57, 3) := by decide +kernel
theorem d_N_firstOf_8 : decode mi_N_firstOf.2.1 8 = .ok (.ireturn, 1) := by decide +kernel
theorem s_N_firstOf_1 : kGet TT cl6 X mi_N_firstOf 1 1 4 := k_get (index := 25) cK_1 d_N_firstOf_1 (by decide) ⟨"Miterhouse$Nets", Or.inl t_1_48, Or.inl rfl⟩
theorem s_N_firstOf_5 : kCall TT cl6 X mi_N_firstOf 5 3 mi_M_numberAt 4 2 0 := k_staticN (index := 57) d_N_firstOf_5 cs_M_numberAt rfl t_1_137 t_1_138
theorem d_N_fits_0 : decode mi_N_fits.2.1 0 = .ok (.aload_n 0, 1) := by decide +kernel
theorem d_N_fits_1 : decode mi_N_fits.2.1 1 = .ok (.iload_n 2, 1) := by decide +kernel
theorem d_N_fits_2 : decode mi_N_fits.2.1 2 = .ok (.invokevirtual 65, 3) := by decide +kernel
theorem d_N_fits_5 : decode mi_N_fits.2.1 5 = .ok (.iload_n 1, 1) := by decide +kernel
theorem d_N_fits_6 : decode mi_N_fits.2.1 6 = .ok (.if_icmp .eq (12), 3) := by decide +kernel
theorem d_N_fits_9 : decode mi_N_fits.2.1 9 = .ok (.aload_n 0, 1) := by decide +kernel
theorem d_N_fits_10 : decode mi_N_fits.2.1 10 = .ok (.iload_n 2, 1) := by decide +kernel
theorem d_N_fits_11 : decode mi_N_fits.2.1 11 = .ok (.invokevirtual 65, 3) := by decide +kernel
theorem d_N_fits_14 : decode mi_N_fits.2.1 14 = .ok (.iconst (2), 1) := by decide +kernel
theorem d_N_fits_15 : decode mi_N_fits.2.1 15 = .ok (.if_icmp .ne (7), 3) := by decide +kernel
theorem d_N_fits_18 : decode mi_N_fits.2.1 18 = .ok (.iconst (1), 1) := by decide +kernel
theorem d_N_fits_19 : decode mi_N_fits.2.1 19 = .ok (.goto (4), 3) := by decide +kernel
theorem d_N_fits_22 : decode mi_N_fits.2.1 22 = .ok (.iconst (0), 1) := by decide +kernel
theorem d_N_fits_23 : decode mi_N_fits.2.1 23 = .ok (.ireturn, 1) := by decide +kernel
theorem s_N_fits_2 : kCall TT cl6 X mi_N_fits 2 3 mi_N_ownerOf 2 2 1 := k_virtual (index := 65) d_N_fits_2 cs_N_ownerOf rfl rfl t_2_182 t_2_183 t_2_184
theorem s_N_fits_11 : kCall TT cl6 X mi_N_fits 11 3 mi_N_ownerOf 2 2 1 := k_virtual (index := 65) d_N_fits_11 cs_N_ownerOf rfl rfl t_2_182 t_2_183 t_2_184
theorem d_N_gatherSources_0 : decode mi_N_gatherSources.2.1 0 = .ok (.iconst (0), 1) := by decide +kernel
theorem d_N_gatherSources_1 : decode mi_N_gatherSources.2.1 1 = .ok (.istore_n 1, 1) := by decide +kernel
theorem d_N_gatherSources_2 : decode mi_N_gatherSources.2.1 2 = .ok (.aload_n 0, 1) := by decide +kernel
theorem d_N_gatherSources_3 : decode mi_N_gatherSources.2.1 3 = .ok (.getfield 50, 3) := by decide +kernel
theorem d_N_gatherSources_6 : decode mi_N_gatherSources.2.1 6 = .ok (.istore_n 2, 1) := by decide +kernel
theorem d_N_gatherSources_7 : decode mi_N_gatherSources.2.1 7 = .ok (.iconst (0), 1) := by decide +kernel
theorem d_N_gatherSources_8 : decode mi_N_gatherSources.2.1 8 = .ok (.istore_n 3, 1) := by decide +kernel
theorem d_N_gatherSources_9 : decode mi_N_gatherSources.2.1 9 = .ok (.iload_n 3, 1) := by decide +kernel
theorem d_N_gatherSources_10 : decode mi_N_gatherSources.2.1 10 = .ok (.aload_n 0, 1) := by decide +kernel
theorem d_N_gatherSources_11 : decode mi_N_gatherSources.2.1 11 = .ok (.getfield 46, 3) := by decide +kernel
theorem d_N_gatherSources_14 : decode mi_N_gatherSources.2.1 14 = .ok (.if_icmp .ge (52), 3) := by decide +kernel
theorem d_N_gatherSources_17 : decode mi_N_gatherSources.2.1 17 = .ok (.aload_n 0, 1) := by decide +kernel
theorem d_N_gatherSources_18 : decode mi_N_gatherSources.2.1 18 = .ok (.iload_n 3, 1) := by decide +kernel
theorem d_N_gatherSources_19 : decode mi_N_gatherSources.2.1 19 = .ok (.invokevirtual 93, 3) := by decide +kernel
theorem d_N_gatherSources_22 : decode mi_N_gatherSources.2.1 22 = .ok (.ifCond .eq (18), 3) := by decide +kernel
theorem d_N_gatherSources_25 : decode mi_N_gatherSources.2.1 25 = .ok (.aload_n 0, 1) := by decide +kernel
theorem d_N_gatherSources_26 : decode mi_N_gatherSources.2.1 26 = .ok (.getfield 40, 3) := by decide +kernel
theorem d_N_gatherSources_29 : decode mi_N_gatherSources.2.1 29 = .ok (.iload_n 1, 1) := by decide +kernel
theorem d_N_gatherSources_30 : decode mi_N_gatherSources.2.1 30 = .ok (.iload_n 3, 1) := by decide +kernel
theorem d_N_gatherSources_31 : decode mi_N_gatherSources.2.1 31 = .ok (.invokestatic 83, 3) := by decide +kernel
theorem d_N_gatherSources_34 : decode mi_N_gatherSources.2.1 34 = .ok (.iinc 1 (1), 3) := by decide +kernel
theorem d_N_gatherSources_37 : decode mi_N_gatherSources.2.1 37 = .ok (.goto (23), 3) := by decide +kernel
theorem d_N_gatherSources_40 : decode mi_N_gatherSources.2.1 40 = .ok (.aload_n 0, 1) := by decide +kernel
theorem d_N_gatherSources_41 : decode mi_N_gatherSources.2.1 41 = .ok (.iload_n 3, 1) := by decide +kernel
theorem d_N_gatherSources_42 : decode mi_N_gatherSources.2.1 42 = .ok (.invokevirtual 68, 3) := by decide +kernel
theorem d_N_gatherSources_45 : decode mi_N_gatherSources.2.1 45 = .ok (.ifCond .eq (15), 3) := by decide +kernel
theorem d_N_gatherSources_48 : decode mi_N_gatherSources.2.1 48 = .ok (.aload_n 0, 1) := by decide +kernel
theorem d_N_gatherSources_49 : decode mi_N_gatherSources.2.1 49 = .ok (.getfield 40, 3) := by decide +kernel
theorem d_N_gatherSources_52 : decode mi_N_gatherSources.2.1 52 = .ok (.iload_n 2, 1) := by decide +kernel
theorem d_N_gatherSources_53 : decode mi_N_gatherSources.2.1 53 = .ok (.iload_n 3, 1) := by decide +kernel
theorem d_N_gatherSources_54 : decode mi_N_gatherSources.2.1 54 = .ok (.invokestatic 83, 3) := by decide +kernel
theorem d_N_gatherSources_57 : decode mi_N_gatherSources.2.1 57 = .ok (.iinc 2 (1), 3) := by decide +kernel
theorem d_N_gatherSources_60 : decode mi_N_gatherSources.2.1 60 = .ok (.iinc 3 (1), 3) := by decide +kernel
theorem d_N_gatherSources_63 : decode mi_N_gatherSources.2.1 63 = .ok (.goto (-54), 3) := by decide +kernel
theorem d_N_gatherSources_66 : decode mi_N_gatherSources.2.1 66 = .ok (.return_, 1) := by decide +kernel
theorem s_N_gatherSources_3 : kGet TT cl6 X mi_N_gatherSources 3 1 12 := k_get (index := 50) cK_1 d_N_gatherSources_3 (by decide) ⟨"Miterhouse$Nets", Or.inl t_1_62, Or.inl rfl⟩
theorem s_N_gatherSources_11 : kGet TT cl6 X mi_N_gatherSources 11 1 11 := k_get (index := 46) cK_1 d_N_gatherSources_11 (by decide) ⟨"Miterhouse$Nets", Or.inl t_1_56, Or.inl rfl⟩
theorem s_N_gatherSources_19 : kCall TT cl6 X mi_N_gatherSources 19 3 mi_N_isInput 2 2 1 := k_virtual (index := 93) d_N_gatherSources_19 cs_N_isInput rfl rfl t_3_100 t_3_101 t_3_102
theorem s_N_gatherSources_26 : kGet TT cl6 X mi_N_gatherSources 26 1 9 := k_get (index := 40) cK_1 d_N_gatherSources_26 (by decide) ⟨"Miterhouse$Nets", Or.inl t_1_53, Or.inl rfl⟩
theorem s_N_gatherSources_31 : kCall TT cl6 X mi_N_gatherSources 31 3 mi_M_putNumber 4 3 0 := k_staticN (index := 83) d_N_gatherSources_31 cs_M_putNumber rfl t_2_215 t_1_184
theorem s_N_gatherSources_42 : kCall TT cl6 X mi_N_gatherSources 42 3 mi_N_isCell 2 2 1 := k_virtual (index := 68) d_N_gatherSources_42 cs_N_isCell rfl rfl t_2_174 t_2_175 t_2_176
theorem s_N_gatherSources_49 : kGet TT cl6 X mi_N_gatherSources 49 1 9 := k_get (index := 40) cK_1 d_N_gatherSources_49 (by decide) ⟨"Miterhouse$Nets", Or.inl t_1_53, Or.inl rfl⟩
theorem s_N_gatherSources_54 : kCall TT cl6 X mi_N_gatherSources 54 3 mi_M_putNumber 4 3 0 := k_staticN (index := 83) d_N_gatherSources_54 cs_M_putNumber rfl t_2_215 t_1_184
theorem d_N_hasLine_0 : decode mi_N_hasLine.2.1 0 = .ok (.iload_n 1, 1) := by decide +kernel
theorem d_N_hasLine_1 : decode mi_N_hasLine.2.1 1 = .ok (.ifCond .lt (15), 3) := by decide +kernel
theorem d_N_hasLine_4 : decode mi_N_hasLine.2.1 4 = .ok (.iload_n 1, 1) := by decide +kernel
theorem d_N_hasLine_5 : decode mi_N_hasLine.2.1 5 = .ok (.aload_n 0, 1) := by decide +kernel
theorem d_N_hasLine_6 : decode mi_N_hasLine.2.1 6 = .ok (.getfield 46, 3) := by decide +kernel
theorem d_N_hasLine_9 : decode mi_N_hasLine.2.1 9 = .ok (.if_icmp .ge (7), 3) := by decide +kernel
theorem d_N_hasLine_12 : decode mi_N_hasLine.2.1 12 = .ok (.iconst (1), 1) := by decide +kernel
theorem d_N_hasLine_13 : decode mi_N_hasLine.2.1 13 = .ok (.goto (4), 3) := by decide +kernel
theorem d_N_hasLine_16 : decode mi_N_hasLine.2.1 16 = .ok (.iconst (0), 1) := by decide +kernel
theorem d_N_hasLine_17 : decode mi_N_hasLine.2.1 17 = .ok (.ireturn, 1) := by decide +kernel
theorem s_N_hasLine_6 : kGet TT cl6 X mi_N_hasLine 6 1 11 := k_get (index := 46) cK_1 d_N_hasLine_6 (by decide) ⟨"Miterhouse$Nets", Or.inl t_1_56, Or.inl rfl⟩
theorem d_N_hasMarkedPin_0 : decode mi_N_hasMarkedPin.2.1 0 = .ok (.aload_n 0, 1) := by decide +kernel
theorem d_N_hasMarkedPin_1 : decode mi_N_hasMarkedPin.2.1 1 = .ok (.iload_n 1, 1) := by decide +kernel
theorem d_N_hasMarkedPin_2 : decode mi_N_hasMarkedPin.2.1 2 = .ok (.invokevirtual 106, 3) := by decide +kernel
theorem d_N_hasMarkedPin_5 : decode mi_N_hasMarkedPin.2.1 5 = .ok (.ifCond .eq (39), 3) := by decide +kernel
theorem d_N_hasMarkedPin_8 : decode mi_N_hasMarkedPin.2.1 8 = .ok (.aload_n 0, 1) := by decide +kernel
theorem d_N_hasMarkedPin_9 : decode mi_N_hasMarkedPin.2.1 9 = .ok (.getfield 43, 3) := by decide +kernel
theorem d_N_hasMarkedPin_12 : decode mi_N_hasMarkedPin.2.1 12 = .ok (.aload_n 0, 1) := by decide +kernel
theorem d_N_hasMarkedPin_13 : decode mi_N_hasMarkedPin.2.1 13 = .ok (.iload_n 1, 1) := by decide +kernel
theorem d_N_hasMarkedPin_14 : decode mi_N_hasMarkedPin.2.1 14 = .ok (.invokevirtual 109, 3) := by decide +kernel
theorem d_N_hasMarkedPin_17 : decode mi_N_hasMarkedPin.2.1 17 = .ok (.invokestatic 57, 3) := by decide +kernel
theorem d_N_hasMarkedPin_20 : decode mi_N_hasMarkedPin.2.1 20 = .ok (.iconst (1), 1) := by decide +kernel
theorem d_N_hasMarkedPin_21 : decode mi_N_hasMarkedPin.2.1 21 = .ok (.if_icmp .eq (19), 3) := by decide +kernel
theorem d_N_hasMarkedPin_24 : decode mi_N_hasMarkedPin.2.1 24 = .ok (.aload_n 0, 1) := by decide +kernel
theorem d_N_hasMarkedPin_25 : decode mi_N_hasMarkedPin.2.1 25 = .ok (.getfield 43, 3) := by decide +kernel
theorem d_N_hasMarkedPin_28 : decode mi_N_hasMarkedPin.2.1 28 = .ok (.aload_n 0, 1) := by decide +kernel
theorem d_N_hasMarkedPin_29 : decode mi_N_hasMarkedPin.2.1 29 = .ok (.iload_n 1, 1) := by decide +kernel
theorem d_N_hasMarkedPin_30 : decode mi_N_hasMarkedPin.2.1 30 = .ok (.invokevirtual 112, 3) := by decide +kernel
theorem d_N_hasMarkedPin_33 : decode mi_N_hasMarkedPin.2.1 33 = .ok (.invokestatic 57, 3) := by decide +kernel
theorem d_N_hasMarkedPin_36 : decode mi_N_hasMarkedPin.2.1 36 = .ok (.iconst (1), 1) := by decide +kernel
theorem d_N_hasMarkedPin_37 : decode mi_N_hasMarkedPin.2.1 37 = .ok (.if_icmp .ne (7), 3) := by decide +kernel
theorem d_N_hasMarkedPin_40 : decode mi_N_hasMarkedPin.2.1 40 = .ok (.iconst (1), 1) := by decide +kernel
theorem d_N_hasMarkedPin_41 : decode mi_N_hasMarkedPin.2.1 41 = .ok (.goto (4), 3) := by decide +kernel
theorem d_N_hasMarkedPin_44 : decode mi_N_hasMarkedPin.2.1 44 = .ok (.iconst (0), 1) := by decide +kernel
theorem d_N_hasMarkedPin_45 : decode mi_N_hasMarkedPin.2.1 45 = .ok (.ireturn, 1) := by decide +kernel
theorem s_N_hasMarkedPin_2 : kCall TT cl6 X mi_N_hasMarkedPin 2 3 mi_N_isGate 2 2 1 := k_virtual (index := 106) d_N_hasMarkedPin_2 cs_N_isGate rfl rfl t_5_101 t_5_8 t_5_9
theorem s_N_hasMarkedPin_9 : kGet TT cl6 X mi_N_hasMarkedPin 9 1 10 := k_get (index := 43) cK_1 d_N_hasMarkedPin_9 (by decide) ⟨"Miterhouse$Nets", Or.inl t_1_54, Or.inl rfl⟩
theorem s_N_hasMarkedPin_14 : kCall TT cl6 X mi_N_hasMarkedPin 14 3 mi_N_oneOfPins 2 2 1 := k_virtual (index := 109) d_N_hasMarkedPin_14 cs_N_oneOfPins rfl rfl t_5_102 t_5_17 t_5_18
theorem s_N_hasMarkedPin_17 : kCall TT cl6 X mi_N_hasMarkedPin 17 3 mi_M_numberAt 4 2 0 := k_staticN (index := 57) d_N_hasMarkedPin_17 cs_M_numberAt rfl t_1_137 t_1_138
theorem s_N_hasMarkedPin_25 : kGet TT cl6 X mi_N_hasMarkedPin 25 1 10 := k_get (index := 43) cK_1 d_N_hasMarkedPin_25 (by decide) ⟨"Miterhouse$Nets", Or.inl t_1_54, Or.inl rfl⟩
theorem s_N_hasMarkedPin_30 : kCall TT cl6 X mi_N_hasMarkedPin 30 3 mi_N_twoOfPins 2 2 1 := k_virtual (index := 112) d_N_hasMarkedPin_30 cs_N_twoOfPins rfl rfl t_5_103 t_5_21 t_5_22
theorem s_N_hasMarkedPin_33 : kCall TT cl6 X mi_N_hasMarkedPin 33 3 mi_M_numberAt 4 2 0 := k_staticN (index := 57) d_N_hasMarkedPin_33 cs_M_numberAt rfl t_1_137 t_1_138
end RW1
