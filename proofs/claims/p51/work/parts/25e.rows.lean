section RW4
variable {X : XT} {L9 : Nat} {xs : Nat → Int32}
theorem d_S_areSameEverywhere_0 : decode mi_S_areSameEverywhere.2.1 0 = .ok (.iconst (0), 1) := by decide +kernel
theorem d_S_areSameEverywhere_1 : decode mi_S_areSameEverywhere.2.1 1 = .ok (.istore_n 3, 1) := by decide +kernel
theorem d_S_areSameEverywhere_2 : decode mi_S_areSameEverywhere.2.1 2 = .ok (.iload_n 3, 1) := by decide +kernel
theorem d_S_areSameEverywhere_3 : decode mi_S_areSameEverywhere.2.1 3 = .ok (.iconst (1), 1) := by decide +kernel
theorem d_S_areSameEverywhere_4 : decode mi_S_areSameEverywhere.2.1 4 = .ok (.aload_n 0, 1) := by decide +kernel
theorem d_S_areSameEverywhere_5 : decode mi_S_areSameEverywhere.2.1 5 = .ok (.getfield 15, 3) := by decide +kernel
theorem d_S_areSameEverywhere_8 : decode mi_S_areSameEverywhere.2.1 8 = .ok (.getfield 85, 3) := by decide +kernel
theorem d_S_areSameEverywhere_11 : decode mi_S_areSameEverywhere.2.1 11 = .ok (.ishl, 1) := by decide +kernel
theorem d_S_areSameEverywhere_12 : decode mi_S_areSameEverywhere.2.1 12 = .ok (.if_icmp .ge (43), 3) := by decide +kernel
theorem d_S_areSameEverywhere_15 : decode mi_S_areSameEverywhere.2.1 15 = .ok (.aload_n 0, 1) := by decide +kernel
theorem d_S_areSameEverywhere_16 : decode mi_S_areSameEverywhere.2.1 16 = .ok (.getfield 15, 3) := by decide +kernel
theorem d_S_areSameEverywhere_19 : decode mi_S_areSameEverywhere.2.1 19 = .ok (.iload_n 3, 1) := by decide +kernel
theorem d_S_areSameEverywhere_20 : decode mi_S_areSameEverywhere.2.1 20 = .ok (.invokevirtual 147, 3) := by decide +kernel
theorem d_S_areSameEverywhere_23 : decode mi_S_areSameEverywhere.2.1 23 = .ok (.ifCond .eq (26), 3) := by decide +kernel
theorem d_S_areSameEverywhere_26 : decode mi_S_areSameEverywhere.2.1 26 = .ok (.aload_n 0, 1) := by decide +kernel
theorem d_S_areSameEverywhere_27 : decode mi_S_areSameEverywhere.2.1 27 = .ok (.getfield 15, 3) := by decide +kernel
theorem d_S_areSameEverywhere_30 : decode mi_S_areSameEverywhere.2.1 30 = .ok (.iload_n 1, 1) := by decide +kernel
theorem d_S_areSameEverywhere_31 : decode mi_S_areSameEverywhere.2.1 31 = .ok (.iload_n 3, 1) := by decide +kernel
theorem d_S_areSameEverywhere_32 : decode mi_S_areSameEverywhere.2.1 32 = .ok (.invokevirtual 61, 3) := by decide +kernel
theorem d_S_areSameEverywhere_35 : decode mi_S_areSameEverywhere.2.1 35 = .ok (.aload_n 0, 1) := by decide +kernel
theorem d_S_areSameEverywhere_36 : decode mi_S_areSameEverywhere.2.1 36 = .ok (.getfield 15, 3) := by decide +kernel
theorem d_S_areSameEverywhere_39 : decode mi_S_areSameEverywhere.2.1 39 = .ok (.iload_n 2, 1) := by decide +kernel
theorem d_S_areSameEverywhere_40 : decode mi_S_areSameEverywhere.2.1 40 = .ok (.iload_n 3, 1) := by decide +kernel
theorem d_S_areSameEverywhere_41 : decode mi_S_areSameEverywhere.2.1 41 = .ok (.invokevirtual 61, 3) := by decide +kernel
theorem d_S_areSameEverywhere_44 : decode mi_S_areSameEverywhere.2.1 44 = .ok (.if_icmp .eq (5), 3) := by decide +kernel
theorem d_S_areSameEverywhere_47 : decode mi_S_areSameEverywhere.2.1 47 = .ok (.iconst (0), 1) := by decide +kernel
theorem d_S_areSameEverywhere_48 : decode mi_S_areSameEverywhere.2.1 48 = .ok (.ireturn, 1) := by decide +kernel
theorem d_S_areSameEverywhere_49 : decode mi_S_areSameEverywhere.2.1 49 = .ok (.iinc 3 (1), 3) := by decide +kernel
theorem d_S_areSameEverywhere_52 : decode mi_S_areSameEverywhere.2.1 52 = .ok (.goto (-50), 3) := by decide +kernel
theorem d_S_areSameEverywhere_55 : decode mi_S_areSameEverywhere.2.1 55 = .ok (.iconst (1), 1) := by decide +kernel
theorem d_S_areSameEverywhere_56 : decode mi_S_areSameEverywhere.2.1 56 = .ok (.ireturn, 1) := by decide +kernel
theorem s_S_areSameEverywhere_5 : kGet TT cl6 X mi_S_areSameEverywhere 5 5 1 := k_get (index := 15) cK_5 d_S_areSameEverywhere_5 (by decide) ⟨"Miterhouse$Sweeping", Or.inl t_3_207, Or.inl rfl⟩
theorem s_S_areSameEverywhere_8 : kGet TT cl6 X mi_S_areSameEverywhere 8 3 1 := k_get (index := 85) cK_3 d_S_areSameEverywhere_8 (by decide) ⟨"Miterhouse$Values", Or.inl t_3_130, Or.inl rfl⟩
theorem s_S_areSameEverywhere_16 : kGet TT cl6 X mi_S_areSameEverywhere 16 5 1 := k_get (index := 15) cK_5 d_S_areSameEverywhere_16 (by decide) ⟨"Miterhouse$Sweeping", Or.inl t_3_207, Or.inl rfl⟩
theorem s_S_areSameEverywhere_20 : kCall TT cl6 X mi_S_areSameEverywhere 20 3 mi_V_isKept 2 2 3 := k_virtual (index := 147) d_S_areSameEverywhere_20 cs_V_isKept rfl rfl t_2_52 t_2_53 t_2_54
theorem s_S_areSameEverywhere_27 : kGet TT cl6 X mi_S_areSameEverywhere 27 5 1 := k_get (index := 15) cK_5 d_S_areSameEverywhere_27 (by decide) ⟨"Miterhouse$Sweeping", Or.inl t_3_207, Or.inl rfl⟩
theorem s_S_areSameEverywhere_32 : kCall TT cl6 X mi_S_areSameEverywhere 32 3 mi_V_bitAtChoice 2 3 3 := k_virtual (index := 61) d_S_areSameEverywhere_32 cs_V_bitAtChoice rfl rfl t_2_57 t_1_145 t_1_146
theorem s_S_areSameEverywhere_36 : kGet TT cl6 X mi_S_areSameEverywhere 36 5 1 := k_get (index := 15) cK_5 d_S_areSameEverywhere_36 (by decide) ⟨"Miterhouse$Sweeping", Or.inl t_3_207, Or.inl rfl⟩
theorem s_S_areSameEverywhere_41 : kCall TT cl6 X mi_S_areSameEverywhere 41 3 mi_V_bitAtChoice 2 3 3 := k_virtual (index := 61) d_S_areSameEverywhere_41 cs_V_bitAtChoice rfl rfl t_2_57 t_1_145 t_1_146
theorem d_S_compare_0 : decode mi_S_compare.2.1 0 = .ok (.aload_n 0, 1) := by decide +kernel
theorem d_S_compare_1 : decode mi_S_compare.2.1 1 = .ok (.iload_n 1, 1) := by decide +kernel
theorem d_S_compare_2 : decode mi_S_compare.2.1 2 = .ok (.iload_n 2, 1) := by decide +kernel
theorem d_S_compare_3 : decode mi_S_compare.2.1 3 = .ok (.iload_n 3, 1) := by decide +kernel
theorem d_S_compare_4 : decode mi_S_compare.2.1 4 = .ok (.invokevirtual 81, 3) := by decide +kernel
theorem d_S_compare_7 : decode mi_S_compare.2.1 7 = .ok (.istore 4, 2) := by decide +kernel
theorem d_S_compare_9 : decode mi_S_compare.2.1 9 = .ok (.iload 4, 2) := by decide +kernel
theorem d_S_compare_11 : decode mi_S_compare.2.1 11 = .ok (.ifCond .ge (32), 3) := by decide +kernel
theorem d_S_compare_14 : decode mi_S_compare.2.1 14 = .ok (.aload_n 0, 1) := by decide +kernel
theorem d_S_compare_15 : decode mi_S_compare.2.1 15 = .ok (.iconst (-1), 1) := by decide +kernel
theorem d_S_compare_16 : decode mi_S_compare.2.1 16 = .ok (.putfield 41, 3) := by decide +kernel
theorem d_S_compare_19 : decode mi_S_compare.2.1 19 = .ok (.aload_n 0, 1) := by decide +kernel
theorem d_S_compare_20 : decode mi_S_compare.2.1 20 = .ok (.iconst (1), 1) := by decide +kernel
theorem d_S_compare_21 : decode mi_S_compare.2.1 21 = .ok (.aload_n 0, 1) := by decide +kernel
theorem d_S_compare_22 : decode mi_S_compare.2.1 22 = .ok (.iload_n 1, 1) := by decide +kernel
theorem d_S_compare_23 : decode mi_S_compare.2.1 23 = .ok (.iload_n 2, 1) := by decide +kernel
theorem d_S_compare_24 : decode mi_S_compare.2.1 24 = .ok (.iload_n 3, 1) := by decide +kernel
theorem d_S_compare_25 : decode mi_S_compare.2.1 25 = .ok (.iconst (1), 1) := by decide +kernel
theorem d_S_compare_26 : decode mi_S_compare.2.1 26 = .ok (.iconst (1), 1) := by decide +kernel
theorem d_S_compare_27 : decode mi_S_compare.2.1 27 = .ok (.aload_n 0, 1) := by decide +kernel
theorem d_S_compare_28 : decode mi_S_compare.2.1 28 = .ok (.getfield 15, 3) := by decide +kernel
theorem d_S_compare_31 : decode mi_S_compare.2.1 31 = .ok (.getfield 85, 3) := by decide +kernel
theorem d_S_compare_34 : decode mi_S_compare.2.1 34 = .ok (.ishl, 1) := by decide +kernel
theorem d_S_compare_35 : decode mi_S_compare.2.1 35 = .ok (.invokevirtual 88, 3) := by decide +kernel
theorem d_S_compare_38 : decode mi_S_compare.2.1 38 = .ok (.iadd, 1) := by decide +kernel
theorem d_S_compare_39 : decode mi_S_compare.2.1 39 = .ok (.putfield 38, 3) := by decide +kernel
theorem d_S_compare_42 : decode mi_S_compare.2.1 42 = .ok (.return_, 1) := by decide +kernel
theorem d_S_compare_43 : decode mi_S_compare.2.1 43 = .ok (.aload_n 0, 1) := by decide +kernel
theorem d_S_compare_44 : decode mi_S_compare.2.1 44 = .ok (.aload_n 0, 1) := by decide +kernel
theorem d_S_compare_45 : decode mi_S_compare.2.1 45 = .ok (.getfield 15, 3) := by decide +kernel
theorem d_S_compare_48 : decode mi_S_compare.2.1 48 = .ok (.iload 4, 2) := by decide +kernel
theorem d_S_compare_50 : decode mi_S_compare.2.1 50 = .ok (.invokevirtual 92, 3) := by decide +kernel
theorem d_S_compare_53 : decode mi_S_compare.2.1 53 = .ok (.putfield 41, 3) := by decide +kernel
theorem d_S_compare_56 : decode mi_S_compare.2.1 56 = .ok (.aload_n 0, 1) := by decide +kernel
theorem d_S_compare_57 : decode mi_S_compare.2.1 57 = .ok (.iload 4, 2) := by decide +kernel
theorem d_S_compare_59 : decode mi_S_compare.2.1 59 = .ok (.i2l, 1) := by decide +kernel
theorem d_S_compare_60 : decode mi_S_compare.2.1 60 = .ok (.invokestatic 95, 3) := by decide +kernel
theorem d_S_compare_63 : decode mi_S_compare.2.1 63 = .ok (.putfield 38, 3) := by decide +kernel
theorem d_S_compare_66 : decode mi_S_compare.2.1 66 = .ok (.iconst (0), 1) := by decide +kernel
theorem d_S_compare_67 : decode mi_S_compare.2.1 67 = .ok (.istore 5, 2) := by decide +kernel
theorem d_S_compare_69 : decode mi_S_compare.2.1 69 = .ok (.iload 5, 2) := by decide +kernel
theorem d_S_compare_71 : decode mi_S_compare.2.1 71 = .ok (.aload_n 0, 1) := by decide +kernel
theorem d_S_compare_72 : decode mi_S_compare.2.1 72 = .ok (.getfield 15, 3) := by decide +kernel
theorem d_S_compare_75 : decode mi_S_compare.2.1 75 = .ok (.getfield 85, 3) := by decide +kernel
theorem d_S_compare_78 : decode mi_S_compare.2.1 78 = .ok (.if_icmp .ge (53), 3) := by decide +kernel
theorem d_S_compare_81 : decode mi_S_compare.2.1 81 = .ok (.iconst (1), 1) := by decide +kernel
theorem d_S_compare_82 : decode mi_S_compare.2.1 82 = .ok (.iload 5, 2) := by decide +kernel
theorem d_S_compare_84 : decode mi_S_compare.2.1 84 = .ok (.ishl, 1) := by decide +kernel
theorem d_S_compare_85 : decode mi_S_compare.2.1 85 = .ok (.istore 6, 2) := by decide +kernel
theorem d_S_compare_87 : decode mi_S_compare.2.1 87 = .ok (.iload 6, 2) := by decide +kernel
theorem d_S_compare_89 : decode mi_S_compare.2.1 89 = .ok (.iload 4, 2) := by decide +kernel
theorem d_S_compare_91 : decode mi_S_compare.2.1 91 = .ok (.aload_n 0, 1) := by decide +kernel
theorem d_S_compare_92 : decode mi_S_compare.2.1 92 = .ok (.getfield 15, 3) := by decide +kernel
theorem d_S_compare_95 : decode mi_S_compare.2.1 95 = .ok (.getfield 85, 3) := by decide +kernel
theorem d_S_compare_98 : decode mi_S_compare.2.1 98 = .ok (.iload 5, 2) := by decide +kernel
theorem d_S_compare_100 : decode mi_S_compare.2.1 100 = .ok (.isub, 1) := by decide +kernel
theorem d_S_compare_101 : decode mi_S_compare.2.1 101 = .ok (.ishr, 1) := by decide +kernel
theorem d_S_compare_102 : decode mi_S_compare.2.1 102 = .ok (.iadd, 1) := by decide +kernel
theorem d_S_compare_103 : decode mi_S_compare.2.1 103 = .ok (.istore 7, 2) := by decide +kernel
theorem d_S_compare_105 : decode mi_S_compare.2.1 105 = .ok (.aload_n 0, 1) := by decide +kernel
theorem d_S_compare_106 : decode mi_S_compare.2.1 106 = .ok (.dup, 1) := by decide +kernel
theorem d_S_compare_107 : decode mi_S_compare.2.1 107 = .ok (.getfield 38, 3) := by decide +kernel
theorem d_S_compare_110 : decode mi_S_compare.2.1 110 = .ok (.aload_n 0, 1) := by decide +kernel
theorem d_S_compare_111 : decode mi_S_compare.2.1 111 = .ok (.iload_n 1, 1) := by decide +kernel
theorem d_S_compare_112 : decode mi_S_compare.2.1 112 = .ok (.iload_n 2, 1) := by decide +kernel
theorem d_S_compare_113 : decode mi_S_compare.2.1 113 = .ok (.iload_n 3, 1) := by decide +kernel
theorem d_S_compare_114 : decode mi_S_compare.2.1 114 = .ok (.iload 6, 2) := by decide +kernel
theorem d_S_compare_116 : decode mi_S_compare.2.1 116 = .ok (.iload 7, 2) := by decide +kernel
theorem d_S_compare_118 : decode mi_S_compare.2.1 118 = .ok (.invokevirtual 88, 3) := by decide +kernel
theorem d_S_compare_121 : decode mi_S_compare.2.1 121 = .ok (.iadd, 1) := by decide +kernel
theorem d_S_compare_122 : decode mi_S_compare.2.1 122 = .ok (.putfield 38, 3) := by decide +kernel
theorem d_S_compare_125 : decode mi_S_compare.2.1 125 = .ok (.iinc 5 (1), 3) := by decide +kernel
theorem d_S_compare_128 : decode mi_S_compare.2.1 128 = .ok (.goto (-59), 3) := by decide +kernel
theorem d_S_compare_131 : decode mi_S_compare.2.1 131 = .ok (.return_, 1) := by decide +kernel
theorem s_S_compare_4 : kCall TT cl6 X mi_S_compare 4 3 mi_S_firstDifference 2 4 5 := k_virtual (index := 81) d_S_compare_4 cs_S_firstDifference rfl rfl t_2_13 t_2_15 ts_11
theorem s_S_compare_16 : kPut TT cl6 X mi_S_compare 16 5 8 .int := k_put (index := 41) cK_5 d_S_compare_16 (by decide) ⟨"Miterhouse$Sweeping", Or.inl t_3_217, Or.inl rfl⟩ rfl
theorem s_S_compare_28 : kGet TT cl6 X mi_S_compare 28 5 1 := k_get (index := 15) cK_5 d_S_compare_28 (by decide) ⟨"Miterhouse$Sweeping", Or.inl t_3_207, Or.inl rfl⟩
theorem s_S_compare_31 : kGet TT cl6 X mi_S_compare 31 3 1 := k_get (index := 85) cK_3 d_S_compare_31 (by decide) ⟨"Miterhouse$Values", Or.inl t_3_130, Or.inl rfl⟩
theorem s_S_compare_35 : kCall TT cl6 X mi_S_compare 35 3 mi_S_openBetween 2 6 5 := k_virtual (index := 88) d_S_compare_35 cs_S_openBetween rfl rfl t_2_38 t_2_40 ts_12
theorem s_S_compare_39 : kPut TT cl6 X mi_S_compare 39 5 7 .int := k_put (index := 38) cK_5 d_S_compare_39 (by decide) ⟨"Miterhouse$Sweeping", Or.inl t_3_215, Or.inl rfl⟩ rfl
theorem s_S_compare_45 : kGet TT cl6 X mi_S_compare 45 5 1 := k_get (index := 15) cK_5 d_S_compare_45 (by decide) ⟨"Miterhouse$Sweeping", Or.inl t_3_207, Or.inl rfl⟩
theorem s_S_compare_50 : kCall TT cl6 X mi_S_compare 50 3 mi_V_mirrored 2 2 3 := k_virtual (index := 92) d_S_compare_50 cs_V_mirrored rfl rfl t_2_47 t_1_149 t_1_150
theorem s_S_compare_53 : kPut TT cl6 X mi_S_compare 53 5 8 .int := k_put (index := 41) cK_5 d_S_compare_53 (by decide) ⟨"Miterhouse$Sweeping", Or.inl t_3_217, Or.inl rfl⟩ rfl
theorem s_S_compare_60 : kCall TT cl6 X mi_S_compare 60 3 mi_L_bitCount 1 1 0 := k_static (index := 95) d_S_compare_60 cs_L_bitCount t_2_46 t_2_27
theorem s_S_compare_63 : kPut TT cl6 X mi_S_compare 63 5 7 .int := k_put (index := 38) cK_5 d_S_compare_63 (by decide) ⟨"Miterhouse$Sweeping", Or.inl t_3_215, Or.inl rfl⟩ rfl
theorem s_S_compare_72 : kGet TT cl6 X mi_S_compare 72 5 1 := k_get (index := 15) cK_5 d_S_compare_72 (by decide) ⟨"Miterhouse$Sweeping", Or.inl t_3_207, Or.inl rfl⟩
theorem s_S_compare_75 : kGet TT cl6 X mi_S_compare 75 3 1 := k_get (index := 85) cK_3 d_S_compare_75 (by decide) ⟨"Miterhouse$Values", Or.inl t_3_130, Or.inl rfl⟩
theorem s_S_compare_92 : kGet TT cl6 X mi_S_compare 92 5 1 := k_get (index := 15) cK_5 d_S_compare_92 (by decide) ⟨"Miterhouse$Sweeping", Or.inl t_3_207, Or.inl rfl⟩
theorem s_S_compare_95 : kGet TT cl6 X mi_S_compare 95 3 1 := k_get (index := 85) cK_3 d_S_compare_95 (by decide) ⟨"Miterhouse$Values", Or.inl t_3_130, Or.inl rfl⟩
theorem s_S_compare_107 : kGet TT cl6 X mi_S_compare 107 5 7 := k_get (index := 38) cK_5 d_S_compare_107 (by decide) ⟨"Miterhouse$Sweeping", Or.inl t_3_215, Or.inl rfl⟩
theorem s_S_compare_118 : kCall TT cl6 X mi_S_compare 118 3 mi_S_openBetween 2 6 5 := k_virtual (index := 88) d_S_compare_118 cs_S_openBetween rfl rfl t_2_38 t_2_40 ts_12
theorem s_S_compare_122 : kPut TT cl6 X mi_S_compare 122 5 7 .int := k_put (index := 38) cK_5 d_S_compare_122 (by decide) ⟨"Miterhouse$Sweeping", Or.inl t_3_215, Or.inl rfl⟩ rfl
theorem d_S_firstDifference_0 : decode mi_S_firstDifference.2.1 0 = .ok (.iload_n 3, 1) := by decide +kernel
theorem d_S_firstDifference_1 : decode mi_S_firstDifference.2.1 1 = .ok (.ifCond .eq (9), 3) := by decide +kernel
theorem d_S_firstDifference_4 : decode mi_S_firstDifference.2.1 4 = .ok (.ldc2_w 75, 3) := by decide +kernel
theorem d_S_firstDifference_7 : decode mi_S_firstDifference.2.1 7 = .ok (.goto (4), 3) := by decide +kernel
theorem d_S_firstDifference_10 : decode mi_S_firstDifference.2.1 10 = .ok (.lconst 0, 1) := by decide +kernel
theorem d_S_firstDifference_11 : decode mi_S_firstDifference.2.1 11 = .ok (.lstore 4, 2) := by decide +kernel
theorem d_S_firstDifference_13 : decode mi_S_firstDifference.2.1 13 = .ok (.iconst (0), 1) := by decide +kernel
theorem d_S_firstDifference_14 : decode mi_S_firstDifference.2.1 14 = .ok (.istore 6, 2) := by decide +kernel
theorem d_S_firstDifference_16 : decode mi_S_firstDifference.2.1 16 = .ok (.iload 6, 2) := by decide +kernel
theorem d_S_firstDifference_18 : decode mi_S_firstDifference.2.1 18 = .ok (.aload_n 0, 1) := by decide +kernel
theorem d_S_firstDifference_19 : decode mi_S_firstDifference.2.1 19 = .ok (.getfield 15, 3) := by decide +kernel
theorem d_S_firstDifference_22 : decode mi_S_firstDifference.2.1 22 = .ok (.getfield 101, 3) := by decide +kernel
theorem d_S_firstDifference_25 : decode mi_S_firstDifference.2.1 25 = .ok (.if_icmp .ge (64), 3) := by decide +kernel
theorem d_S_firstDifference_28 : decode mi_S_firstDifference.2.1 28 = .ok (.aload_n 0, 1) := by decide +kernel
theorem d_S_firstDifference_29 : decode mi_S_firstDifference.2.1 29 = .ok (.getfield 15, 3) := by decide +kernel
theorem d_S_firstDifference_32 : decode mi_S_firstDifference.2.1 32 = .ok (.iload_n 1, 1) := by decide +kernel
theorem d_S_firstDifference_33 : decode mi_S_firstDifference.2.1 33 = .ok (.iload 6, 2) := by decide +kernel
theorem d_S_firstDifference_35 : decode mi_S_firstDifference.2.1 35 = .ok (.invokevirtual 104, 3) := by decide +kernel
theorem d_S_firstDifference_38 : decode mi_S_firstDifference.2.1 38 = .ok (.aload_n 0, 1) := by decide +kernel
theorem d_S_firstDifference_39 : decode mi_S_firstDifference.2.1 39 = .ok (.getfield 15, 3) := by decide +kernel
theorem d_S_firstDifference_42 : decode mi_S_firstDifference.2.1 42 = .ok (.iload_n 2, 1) := by decide +kernel
theorem d_S_firstDifference_43 : decode mi_S_firstDifference.2.1 43 = .ok (.iload 6, 2) := by decide +kernel
theorem d_S_firstDifference_45 : decode mi_S_firstDifference.2.1 45 = .ok (.invokevirtual 104, 3) := by decide +kernel
theorem d_S_firstDifference_48 : decode mi_S_firstDifference.2.1 48 = .ok (.lxor, 1) := by decide +kernel
theorem d_S_firstDifference_49 : decode mi_S_firstDifference.2.1 49 = .ok (.lload 4, 2) := by decide +kernel
theorem d_S_firstDifference_51 : decode mi_S_firstDifference.2.1 51 = .ok (.lxor, 1) := by decide +kernel
theorem d_S_firstDifference_52 : decode mi_S_firstDifference.2.1 52 = .ok (.aload_n 0, 1) := by decide +kernel
theorem d_S_firstDifference_53 : decode mi_S_firstDifference.2.1 53 = .ok (.getfield 15, 3) := by decide +kernel
theorem d_S_firstDifference_56 : decode mi_S_firstDifference.2.1 56 = .ok (.iload 6, 2) := by decide +kernel
theorem d_S_firstDifference_58 : decode mi_S_firstDifference.2.1 58 = .ok (.invokevirtual 108, 3) := by decide +kernel
theorem d_S_firstDifference_61 : decode mi_S_firstDifference.2.1 61 = .ok (.land, 1) := by decide +kernel
theorem d_S_firstDifference_62 : decode mi_S_firstDifference.2.1 62 = .ok (.lstore 7, 2) := by decide +kernel
theorem d_S_firstDifference_64 : decode mi_S_firstDifference.2.1 64 = .ok (.lload 7, 2) := by decide +kernel
theorem d_S_firstDifference_66 : decode mi_S_firstDifference.2.1 66 = .ok (.lconst 0, 1) := by decide +kernel
theorem d_S_firstDifference_67 : decode mi_S_firstDifference.2.1 67 = .ok (.lcmp, 1) := by decide +kernel
theorem d_S_firstDifference_68 : decode mi_S_firstDifference.2.1 68 = .ok (.ifCond .eq (15), 3) := by decide +kernel
theorem d_S_firstDifference_71 : decode mi_S_firstDifference.2.1 71 = .ok (.bipush (64), 2) := by decide +kernel
theorem d_S_firstDifference_73 : decode mi_S_firstDifference.2.1 73 = .ok (.iload 6, 2) := by decide +kernel
theorem d_S_firstDifference_75 : decode mi_S_firstDifference.2.1 75 = .ok (.imul, 1) := by decide +kernel
theorem d_S_firstDifference_76 : decode mi_S_firstDifference.2.1 76 = .ok (.lload 7, 2) := by decide +kernel
theorem d_S_firstDifference_78 : decode mi_S_firstDifference.2.1 78 = .ok (.invokestatic 111, 3) := by decide +kernel
theorem d_S_firstDifference_81 : decode mi_S_firstDifference.2.1 81 = .ok (.iadd, 1) := by decide +kernel
theorem d_S_firstDifference_82 : decode mi_S_firstDifference.2.1 82 = .ok (.ireturn, 1) := by decide +kernel
theorem d_S_firstDifference_83 : decode mi_S_firstDifference.2.1 83 = .ok (.iinc 6 (1), 3) := by decide +kernel
theorem d_S_firstDifference_86 : decode mi_S_firstDifference.2.1 86 = .ok (.goto (-70), 3) := by decide +kernel
theorem d_S_firstDifference_89 : decode mi_S_firstDifference.2.1 89 = .ok (.iconst (-1), 1) := by decide +kernel
theorem d_S_firstDifference_90 : decode mi_S_firstDifference.2.1 90 = .ok (.ireturn, 1) := by decide +kernel
theorem s_S_firstDifference_4 : kPush TT cl6 X mi_S_firstDifference 4 3 (.long (Int64.ofInt (-1))) := k_ldc2 (index := 75) d_S_firstDifference_4 t_2_17
theorem s_S_firstDifference_19 : kGet TT cl6 X mi_S_firstDifference 19 5 1 := k_get (index := 15) cK_5 d_S_firstDifference_19 (by decide) ⟨"Miterhouse$Sweeping", Or.inl t_3_207, Or.inl rfl⟩
theorem s_S_firstDifference_22 : kGet TT cl6 X mi_S_firstDifference 22 3 2 := k_get (index := 101) cK_3 d_S_firstDifference_22 (by decide) ⟨"Miterhouse$Values", Or.inl t_3_134, Or.inl rfl⟩
theorem s_S_firstDifference_29 : kGet TT cl6 X mi_S_firstDifference 29 5 1 := k_get (index := 15) cK_5 d_S_firstDifference_29 (by decide) ⟨"Miterhouse$Sweeping", Or.inl t_3_207, Or.inl rfl⟩
theorem s_S_firstDifference_35 : kCall TT cl6 X mi_S_firstDifference 35 3 mi_V_heldWord 2 3 3 := k_virtual (index := 104) d_S_firstDifference_35 cs_V_heldWord rfl rfl t_2_18 t_1_229 t_1_230
theorem s_S_firstDifference_39 : kGet TT cl6 X mi_S_firstDifference 39 5 1 := k_get (index := 15) cK_5 d_S_firstDifference_39 (by decide) ⟨"Miterhouse$Sweeping", Or.inl t_3_207, Or.inl rfl⟩
theorem s_S_firstDifference_45 : kCall TT cl6 X mi_S_firstDifference 45 3 mi_V_heldWord 2 3 3 := k_virtual (index := 104) d_S_firstDifference_45 cs_V_heldWord rfl rfl t_2_18 t_1_229 t_1_230
theorem s_S_firstDifference_53 : kGet TT cl6 X mi_S_firstDifference 53 5 1 := k_get (index := 15) cK_5 d_S_firstDifference_53 (by decide) ⟨"Miterhouse$Sweeping", Or.inl t_3_207, Or.inl rfl⟩
theorem s_S_firstDifference_58 : kCall TT cl6 X mi_S_firstDifference 58 3 mi_V_keptWord 2 2 3 := k_virtual (index := 108) d_S_firstDifference_58 cs_V_keptWord rfl rfl t_2_19 t_2_20 t_2_21
theorem s_S_firstDifference_78 : kCall TT cl6 X mi_S_firstDifference 78 3 mi_M_lowestBit 4 1 0 := k_staticN (index := 111) d_S_firstDifference_78 cs_M_lowestBit rfl t_2_23 t_2_24
theorem d_S_isMerged_0 : decode mi_S_isMerged.2.1 0 = .ok (.aload_n 0, 1) := by decide +kernel
theorem d_S_isMerged_1 : decode mi_S_isMerged.2.1 1 = .ok (.iload_n 1, 1) := by decide +kernel
theorem d_S_isMerged_2 : decode mi_S_isMerged.2.1 2 = .ok (.invokevirtual 52, 3) := by decide +kernel
theorem d_S_isMerged_5 : decode mi_S_isMerged.2.1 5 = .ok (.iconst (2), 1) := by decide +kernel
theorem d_S_isMerged_6 : decode mi_S_isMerged.2.1 6 = .ok (.iload_n 1, 1) := by decide +kernel
theorem d_S_isMerged_7 : decode mi_S_isMerged.2.1 7 = .ok (.imul, 1) := by decide +kernel
theorem d_S_isMerged_8 : decode mi_S_isMerged.2.1 8 = .ok (.if_icmp .eq (7), 3) := by decide +kernel
theorem d_S_isMerged_11 : decode mi_S_isMerged.2.1 11 = .ok (.iconst (1), 1) := by decide +kernel
theorem d_S_isMerged_12 : decode mi_S_isMerged.2.1 12 = .ok (.goto (4), 3) := by decide +kernel
theorem d_S_isMerged_15 : decode mi_S_isMerged.2.1 15 = .ok (.iconst (0), 1) := by decide +kernel
theorem d_S_isMerged_16 : decode mi_S_isMerged.2.1 16 = .ok (.ireturn, 1) := by decide +kernel
theorem s_S_isMerged_2 : kCall TT cl6 X mi_S_isMerged 2 3 mi_S_targetOf 2 2 5 := k_virtual (index := 52) d_S_isMerged_2 cs_S_targetOf rfl rfl t_2_3 t_2_4 t_2_5
theorem d_S_isRight_0 : decode mi_S_isRight.2.1 0 = .ok (.iconst (0), 1) := by decide +kernel
theorem d_S_isRight_1 : decode mi_S_isRight.2.1 1 = .ok (.istore_n 1, 1) := by decide +kernel
theorem d_S_isRight_2 : decode mi_S_isRight.2.1 2 = .ok (.iload_n 1, 1) := by decide +kernel
theorem d_S_isRight_3 : decode mi_S_isRight.2.1 3 = .ok (.aload_n 0, 1) := by decide +kernel
theorem d_S_isRight_4 : decode mi_S_isRight.2.1 4 = .ok (.getfield 9, 3) := by decide +kernel
theorem d_S_isRight_7 : decode mi_S_isRight.2.1 7 = .ok (.getfield 56, 3) := by decide +kernel
theorem d_S_isRight_10 : decode mi_S_isRight.2.1 10 = .ok (.if_icmp .ge (48), 3) := by decide +kernel
theorem d_S_isRight_13 : decode mi_S_isRight.2.1 13 = .ok (.aload_n 0, 1) := by decide +kernel
theorem d_S_isRight_14 : decode mi_S_isRight.2.1 14 = .ok (.iload_n 1, 1) := by decide +kernel
theorem d_S_isRight_15 : decode mi_S_isRight.2.1 15 = .ok (.invokevirtual 52, 3) := by decide +kernel
theorem d_S_isRight_18 : decode mi_S_isRight.2.1 18 = .ok (.istore_n 2, 1) := by decide +kernel
theorem d_S_isRight_19 : decode mi_S_isRight.2.1 19 = .ok (.aload_n 0, 1) := by decide +kernel
theorem d_S_isRight_20 : decode mi_S_isRight.2.1 20 = .ok (.iload_n 1, 1) := by decide +kernel
theorem d_S_isRight_21 : decode mi_S_isRight.2.1 21 = .ok (.invokevirtual 118, 3) := by decide +kernel
theorem d_S_isRight_24 : decode mi_S_isRight.2.1 24 = .ok (.ifCond .eq (28), 3) := by decide +kernel
theorem d_S_isRight_27 : decode mi_S_isRight.2.1 27 = .ok (.aload_n 0, 1) := by decide +kernel
theorem d_S_isRight_28 : decode mi_S_isRight.2.1 28 = .ok (.iload_n 1, 1) := by decide +kernel
theorem d_S_isRight_29 : decode mi_S_isRight.2.1 29 = .ok (.iload_n 2, 1) := by decide +kernel
theorem d_S_isRight_30 : decode mi_S_isRight.2.1 30 = .ok (.iconst (1), 1) := by decide +kernel
theorem d_S_isRight_31 : decode mi_S_isRight.2.1 31 = .ok (.ishr, 1) := by decide +kernel
theorem d_S_isRight_32 : decode mi_S_isRight.2.1 32 = .ok (.iload_n 2, 1) := by decide +kernel
theorem d_S_isRight_33 : decode mi_S_isRight.2.1 33 = .ok (.iconst (1), 1) := by decide +kernel
theorem d_S_isRight_34 : decode mi_S_isRight.2.1 34 = .ok (.iand, 1) := by decide +kernel
theorem d_S_isRight_35 : decode mi_S_isRight.2.1 35 = .ok (.iconst (1), 1) := by decide +kernel
theorem d_S_isRight_36 : decode mi_S_isRight.2.1 36 = .ok (.if_icmp .ne (7), 3) := by decide +kernel
theorem d_S_isRight_39 : decode mi_S_isRight.2.1 39 = .ok (.iconst (1), 1) := by decide +kernel
theorem d_S_isRight_40 : decode mi_S_isRight.2.1 40 = .ok (.goto (4), 3) := by decide +kernel
theorem d_S_isRight_43 : decode mi_S_isRight.2.1 43 = .ok (.iconst (0), 1) := by decide +kernel
theorem d_S_isRight_44 : decode mi_S_isRight.2.1 44 = .ok (.invokevirtual 81, 3) := by decide +kernel
theorem d_S_isRight_47 : decode mi_S_isRight.2.1 47 = .ok (.ifCond .lt (5), 3) := by decide +kernel
theorem d_S_isRight_50 : decode mi_S_isRight.2.1 50 = .ok (.iconst (0), 1) := by decide +kernel
theorem d_S_isRight_51 : decode mi_S_isRight.2.1 51 = .ok (.ireturn, 1) := by decide +kernel
theorem d_S_isRight_52 : decode mi_S_isRight.2.1 52 = .ok (.iinc 1 (1), 3) := by decide +kernel
theorem d_S_isRight_55 : decode mi_S_isRight.2.1 55 = .ok (.goto (-53), 3) := by decide +kernel
theorem d_S_isRight_58 : decode mi_S_isRight.2.1 58 = .ok (.iconst (0), 1) := by decide +kernel
theorem d_S_isRight_59 : decode mi_S_isRight.2.1 59 = .ok (.istore_n 1, 1) := by decide +kernel
theorem d_S_isRight_60 : decode mi_S_isRight.2.1 60 = .ok (.iload_n 1, 1) := by decide +kernel
theorem d_S_isRight_61 : decode mi_S_isRight.2.1 61 = .ok (.aload_n 0, 1) := by decide +kernel
theorem d_S_isRight_62 : decode mi_S_isRight.2.1 62 = .ok (.getfield 9, 3) := by decide +kernel
theorem d_S_isRight_65 : decode mi_S_isRight.2.1 65 = .ok (.iconst (0), 1) := by decide +kernel
theorem d_S_isRight_66 : decode mi_S_isRight.2.1 66 = .ok (.invokevirtual 137, 3) := by decide +kernel
theorem d_S_isRight_69 : decode mi_S_isRight.2.1 69 = .ok (.if_icmp .ge (59), 3) := by decide +kernel
theorem d_S_isRight_72 : decode mi_S_isRight.2.1 72 = .ok (.aload_n 0, 1) := by decide +kernel
theorem d_S_isRight_73 : decode mi_S_isRight.2.1 73 = .ok (.getfield 9, 3) := by decide +kernel
theorem d_S_isRight_76 : decode mi_S_isRight.2.1 76 = .ok (.iconst (0), 1) := by decide +kernel
theorem d_S_isRight_77 : decode mi_S_isRight.2.1 77 = .ok (.iload_n 1, 1) := by decide +kernel
theorem d_S_isRight_78 : decode mi_S_isRight.2.1 78 = .ok (.invokevirtual 140, 3) := by decide +kernel
theorem d_S_isRight_81 : decode mi_S_isRight.2.1 81 = .ok (.istore_n 2, 1) := by decide +kernel
theorem d_S_isRight_82 : decode mi_S_isRight.2.1 82 = .ok (.aload_n 0, 1) := by decide +kernel
theorem d_S_isRight_83 : decode mi_S_isRight.2.1 83 = .ok (.getfield 9, 3) := by decide +kernel
theorem d_S_isRight_86 : decode mi_S_isRight.2.1 86 = .ok (.iconst (1), 1) := by decide +kernel
theorem d_S_isRight_87 : decode mi_S_isRight.2.1 87 = .ok (.iload_n 1, 1) := by decide +kernel
theorem d_S_isRight_88 : decode mi_S_isRight.2.1 88 = .ok (.invokevirtual 140, 3) := by decide +kernel
theorem d_S_isRight_91 : decode mi_S_isRight.2.1 91 = .ok (.istore_n 3, 1) := by decide +kernel
theorem d_S_isRight_92 : decode mi_S_isRight.2.1 92 = .ok (.aload_n 0, 1) := by decide +kernel
theorem d_S_isRight_93 : decode mi_S_isRight.2.1 93 = .ok (.iload_n 2, 1) := by decide +kernel
theorem d_S_isRight_94 : decode mi_S_isRight.2.1 94 = .ok (.iload_n 3, 1) := by decide +kernel
theorem d_S_isRight_95 : decode mi_S_isRight.2.1 95 = .ok (.iconst (0), 1) := by decide +kernel
theorem d_S_isRight_96 : decode mi_S_isRight.2.1 96 = .ok (.invokevirtual 126, 3) := by decide +kernel
theorem d_S_isRight_99 : decode mi_S_isRight.2.1 99 = .ok (.aload_n 0, 1) := by decide +kernel
theorem d_S_isRight_100 : decode mi_S_isRight.2.1 100 = .ok (.getfield 41, 3) := by decide +kernel
theorem d_S_isRight_103 : decode mi_S_isRight.2.1 103 = .ok (.ifCond .ge (7), 3) := by decide +kernel
theorem d_S_isRight_106 : decode mi_S_isRight.2.1 106 = .ok (.iconst (1), 1) := by decide +kernel
theorem d_S_isRight_107 : decode mi_S_isRight.2.1 107 = .ok (.goto (4), 3) := by decide +kernel
theorem d_S_isRight_110 : decode mi_S_isRight.2.1 110 = .ok (.iconst (0), 1) := by decide +kernel
theorem d_S_isRight_111 : decode mi_S_isRight.2.1 111 = .ok (.aload_n 0, 1) := by decide +kernel
theorem d_S_isRight_112 : decode mi_S_isRight.2.1 112 = .ok (.iload_n 2, 1) := by decide +kernel
theorem d_S_isRight_113 : decode mi_S_isRight.2.1 113 = .ok (.iload_n 3, 1) := by decide +kernel
theorem d_S_isRight_114 : decode mi_S_isRight.2.1 114 = .ok (.invokevirtual 143, 3) := by decide +kernel
theorem d_S_isRight_117 : decode mi_S_isRight.2.1 117 = .ok (.if_icmp .eq (5), 3) := by decide +kernel
theorem d_S_isRight_120 : decode mi_S_isRight.2.1 120 = .ok (.iconst (0), 1) := by decide +kernel
theorem d_S_isRight_121 : decode mi_S_isRight.2.1 121 = .ok (.ireturn, 1) := by decide +kernel
theorem d_S_isRight_122 : decode mi_S_isRight.2.1 122 = .ok (.iinc 1 (1), 3) := by decide +kernel
theorem d_S_isRight_125 : decode mi_S_isRight.2.1 125 = .ok (.goto (-65), 3) := by decide +kernel
theorem d_S_isRight_128 : decode mi_S_isRight.2.1 128 = .ok (.iconst (1), 1) := by decide +kernel
theorem d_S_isRight_129 : decode mi_S_isRight.2.1 129 = .ok (.ireturn, 1) := by decide +kernel
theorem s_S_isRight_4 : kGet TT cl6 X mi_S_isRight 4 5 0 := k_get (index := 9) cK_5 d_S_isRight_4 (by decide) ⟨"Miterhouse$Sweeping", Or.inl t_3_206, Or.inl rfl⟩
theorem s_S_isRight_7 : kGet TT cl6 X mi_S_isRight 7 1 11 := k_get (index := 56) cK_1 d_S_isRight_7 (by decide) ⟨"Miterhouse$Nets", Or.inl t_1_59, Or.inl rfl⟩
theorem s_S_isRight_15 : kCall TT cl6 X mi_S_isRight 15 3 mi_S_targetOf 2 2 5 := k_virtual (index := 52) d_S_isRight_15 cs_S_targetOf rfl rfl t_2_3 t_2_4 t_2_5
theorem s_S_isRight_21 : kCall TT cl6 X mi_S_isRight 21 3 mi_S_isMerged 2 2 5 := k_virtual (index := 118) d_S_isRight_21 cs_S_isMerged rfl rfl t_2_8 t_2_10 ts_10
theorem s_S_isRight_44 : kCall TT cl6 X mi_S_isRight 44 3 mi_S_firstDifference 2 4 5 := k_virtual (index := 81) d_S_isRight_44 cs_S_firstDifference rfl rfl t_2_13 t_2_15 ts_11
theorem s_S_isRight_62 : kGet TT cl6 X mi_S_isRight 62 5 0 := k_get (index := 9) cK_5 d_S_isRight_62 (by decide) ⟨"Miterhouse$Sweeping", Or.inl t_3_206, Or.inl rfl⟩
theorem s_S_isRight_66 : kCall TT cl6 X mi_S_isRight 66 3 mi_N_outputsOf 2 2 1 := k_virtual (index := 137) d_S_isRight_66 cs_N_outputsOf rfl rfl t_2_32 t_1_134 t_1_135
theorem s_S_isRight_73 : kGet TT cl6 X mi_S_isRight 73 5 0 := k_get (index := 9) cK_5 d_S_isRight_73 (by decide) ⟨"Miterhouse$Sweeping", Or.inl t_3_206, Or.inl rfl⟩
theorem s_S_isRight_78 : kCall TT cl6 X mi_S_isRight 78 3 mi_N_outputAt 2 3 1 := k_virtual (index := 140) d_S_isRight_78 cs_N_outputAt rfl rfl t_2_33 t_1_141 t_1_142
theorem s_S_isRight_83 : kGet TT cl6 X mi_S_isRight 83 5 0 := k_get (index := 9) cK_5 d_S_isRight_83 (by decide) ⟨"Miterhouse$Sweeping", Or.inl t_3_206, Or.inl rfl⟩
theorem s_S_isRight_88 : kCall TT cl6 X mi_S_isRight 88 3 mi_N_outputAt 2 3 1 := k_virtual (index := 140) d_S_isRight_88 cs_N_outputAt rfl rfl t_2_33 t_1_141 t_1_142
theorem s_S_isRight_96 : kCall TT cl6 X mi_S_isRight 96 3 mi_S_compare 2 4 5 := k_virtual (index := 126) d_S_isRight_96 cs_S_compare rfl rfl t_2_34 t_2_35 t_2_36
theorem s_S_isRight_100 : kGet TT cl6 X mi_S_isRight 100 5 8 := k_get (index := 41) cK_5 d_S_isRight_100 (by decide) ⟨"Miterhouse$Sweeping", Or.inl t_3_217, Or.inl rfl⟩
theorem s_S_isRight_114 : kCall TT cl6 X mi_S_isRight 114 3 mi_S_areSameEverywhere 2 3 5 := k_virtual (index := 143) d_S_isRight_114 cs_S_areSameEverywhere rfl rfl t_2_48 t_2_50 ts_13
theorem d_S_openBetween_0 : decode mi_S_openBetween.2.1 0 = .ok (.iconst (0), 1) := by decide +kernel
theorem d_S_openBetween_1 : decode mi_S_openBetween.2.1 1 = .ok (.istore 6, 2) := by decide +kernel
theorem d_S_openBetween_3 : decode mi_S_openBetween.2.1 3 = .ok (.iload 4, 2) := by decide +kernel
theorem d_S_openBetween_5 : decode mi_S_openBetween.2.1 5 = .ok (.bipush (6), 2) := by decide +kernel
theorem d_S_openBetween_7 : decode mi_S_openBetween.2.1 7 = .ok (.ishr, 1) := by decide +kernel
theorem d_S_openBetween_8 : decode mi_S_openBetween.2.1 8 = .ok (.istore 7, 2) := by decide +kernel
theorem d_S_openBetween_10 : decode mi_S_openBetween.2.1 10 = .ok (.bipush (64), 2) := by decide +kernel
theorem d_S_openBetween_12 : decode mi_S_openBetween.2.1 12 = .ok (.iload 7, 2) := by decide +kernel
theorem d_S_openBetween_14 : decode mi_S_openBetween.2.1 14 = .ok (.imul, 1) := by decide +kernel
theorem d_S_openBetween_15 : decode mi_S_openBetween.2.1 15 = .ok (.iload 5, 2) := by decide +kernel
theorem d_S_openBetween_17 : decode mi_S_openBetween.2.1 17 = .ok (.if_icmp .ge (88), 3) := by decide +kernel
theorem d_S_openBetween_20 : decode mi_S_openBetween.2.1 20 = .ok (.aload_n 0, 1) := by decide +kernel
theorem d_S_openBetween_21 : decode mi_S_openBetween.2.1 21 = .ok (.getfield 15, 3) := by decide +kernel
theorem d_S_openBetween_24 : decode mi_S_openBetween.2.1 24 = .ok (.iload_n 1, 1) := by decide +kernel
theorem d_S_openBetween_25 : decode mi_S_openBetween.2.1 25 = .ok (.iload_n 2, 1) := by decide +kernel
theorem d_S_openBetween_26 : decode mi_S_openBetween.2.1 26 = .ok (.iload_n 3, 1) := by decide +kernel
theorem d_S_openBetween_27 : decode mi_S_openBetween.2.1 27 = .ok (.iload 7, 2) := by decide +kernel
theorem d_S_openBetween_29 : decode mi_S_openBetween.2.1 29 = .ok (.invokevirtual 114, 3) := by decide +kernel
theorem d_S_openBetween_32 : decode mi_S_openBetween.2.1 32 = .ok (.ldc2_w 75, 3) := by decide +kernel
theorem d_S_openBetween_35 : decode mi_S_openBetween.2.1 35 = .ok (.lxor, 1) := by decide +kernel
theorem d_S_openBetween_36 : decode mi_S_openBetween.2.1 36 = .ok (.lstore 8, 2) := by decide +kernel
theorem d_S_openBetween_38 : decode mi_S_openBetween.2.1 38 = .ok (.bipush (64), 2) := by decide +kernel
theorem d_S_openBetween_40 : decode mi_S_openBetween.2.1 40 = .ok (.iload 7, 2) := by decide +kernel
theorem d_S_openBetween_42 : decode mi_S_openBetween.2.1 42 = .ok (.imul, 1) := by decide +kernel
theorem d_S_openBetween_43 : decode mi_S_openBetween.2.1 43 = .ok (.iload 4, 2) := by decide +kernel
theorem d_S_openBetween_45 : decode mi_S_openBetween.2.1 45 = .ok (.if_icmp .ge (17), 3) := by decide +kernel
theorem d_S_openBetween_48 : decode mi_S_openBetween.2.1 48 = .ok (.lload 8, 2) := by decide +kernel
theorem d_S_openBetween_50 : decode mi_S_openBetween.2.1 50 = .ok (.ldc2_w 75, 3) := by decide +kernel
theorem d_S_openBetween_53 : decode mi_S_openBetween.2.1 53 = .ok (.iload 4, 2) := by decide +kernel
theorem d_S_openBetween_55 : decode mi_S_openBetween.2.1 55 = .ok (.bipush (63), 2) := by decide +kernel
theorem d_S_openBetween_57 : decode mi_S_openBetween.2.1 57 = .ok (.iand, 1) := by decide +kernel
theorem d_S_openBetween_58 : decode mi_S_openBetween.2.1 58 = .ok (.lshl, 1) := by decide +kernel
theorem d_S_openBetween_59 : decode mi_S_openBetween.2.1 59 = .ok (.land, 1) := by decide +kernel
theorem d_S_openBetween_60 : decode mi_S_openBetween.2.1 60 = .ok (.lstore 8, 2) := by decide +kernel
theorem d_S_openBetween_62 : decode mi_S_openBetween.2.1 62 = .ok (.iload 5, 2) := by decide +kernel
theorem d_S_openBetween_64 : decode mi_S_openBetween.2.1 64 = .ok (.bipush (64), 2) := by decide +kernel
theorem d_S_openBetween_66 : decode mi_S_openBetween.2.1 66 = .ok (.iload 7, 2) := by decide +kernel
theorem d_S_openBetween_68 : decode mi_S_openBetween.2.1 68 = .ok (.imul, 1) := by decide +kernel
theorem d_S_openBetween_69 : decode mi_S_openBetween.2.1 69 = .ok (.isub, 1) := by decide +kernel
theorem d_S_openBetween_70 : decode mi_S_openBetween.2.1 70 = .ok (.bipush (64), 2) := by decide +kernel
theorem d_S_openBetween_72 : decode mi_S_openBetween.2.1 72 = .ok (.if_icmp .ge (17), 3) := by decide +kernel
theorem d_S_openBetween_75 : decode mi_S_openBetween.2.1 75 = .ok (.lload 8, 2) := by decide +kernel
theorem d_S_openBetween_77 : decode mi_S_openBetween.2.1 77 = .ok (.lconst 1, 1) := by decide +kernel
theorem d_S_openBetween_78 : decode mi_S_openBetween.2.1 78 = .ok (.iload 5, 2) := by decide +kernel
theorem d_S_openBetween_80 : decode mi_S_openBetween.2.1 80 = .ok (.bipush (63), 2) := by decide +kernel
theorem d_S_openBetween_82 : decode mi_S_openBetween.2.1 82 = .ok (.iand, 1) := by decide +kernel
theorem d_S_openBetween_83 : decode mi_S_openBetween.2.1 83 = .ok (.lshl, 1) := by decide +kernel
theorem d_S_openBetween_84 : decode mi_S_openBetween.2.1 84 = .ok (.lconst 1, 1) := by decide +kernel
theorem d_S_openBetween_85 : decode mi_S_openBetween.2.1 85 = .ok (.lsub, 1) := by decide +kernel
theorem d_S_openBetween_86 : decode mi_S_openBetween.2.1 86 = .ok (.land, 1) := by decide +kernel
theorem d_S_openBetween_87 : decode mi_S_openBetween.2.1 87 = .ok (.lstore 8, 2) := by decide +kernel
theorem d_S_openBetween_89 : decode mi_S_openBetween.2.1 89 = .ok (.iload 6, 2) := by decide +kernel
theorem d_S_openBetween_91 : decode mi_S_openBetween.2.1 91 = .ok (.lload 8, 2) := by decide +kernel
theorem d_S_openBetween_93 : decode mi_S_openBetween.2.1 93 = .ok (.invokestatic 95, 3) := by decide +kernel
theorem d_S_openBetween_96 : decode mi_S_openBetween.2.1 96 = .ok (.iadd, 1) := by decide +kernel
theorem d_S_openBetween_97 : decode mi_S_openBetween.2.1 97 = .ok (.istore 6, 2) := by decide +kernel
theorem d_S_openBetween_99 : decode mi_S_openBetween.2.1 99 = .ok (.iinc 7 (1), 3) := by decide +kernel
theorem d_S_openBetween_102 : decode mi_S_openBetween.2.1 102 = .ok (.goto (-92), 3) := by decide +kernel
theorem d_S_openBetween_105 : decode mi_S_openBetween.2.1 105 = .ok (.iload 6, 2) := by decide +kernel
theorem d_S_openBetween_107 : decode mi_S_openBetween.2.1 107 = .ok (.ireturn, 1) := by decide +kernel
theorem s_S_openBetween_21 : kGet TT cl6 X mi_S_openBetween 21 5 1 := k_get (index := 15) cK_5 d_S_openBetween_21 (by decide) ⟨"Miterhouse$Sweeping", Or.inl t_3_207, Or.inl rfl⟩
theorem s_S_openBetween_29 : kCall TT cl6 X mi_S_openBetween 29 3 mi_V_leafWord 2 5 3 := k_virtual (index := 114) d_S_openBetween_29 cs_V_leafWord rfl rfl t_2_42 t_2_43 t_2_44
theorem s_S_openBetween_32 : kPush TT cl6 X mi_S_openBetween 32 3 (.long (Int64.ofInt (-1))) := k_ldc2 (index := 75) d_S_openBetween_32 t_2_17
theorem s_S_openBetween_50 : kPush TT cl6 X mi_S_openBetween 50 3 (.long (Int64.ofInt (-1))) := k_ldc2 (index := 75) d_S_openBetween_50 t_2_17
theorem s_S_openBetween_93 : kCall TT cl6 X mi_S_openBetween 93 3 mi_L_bitCount 1 1 0 := k_static (index := 95) d_S_openBetween_93 cs_L_bitCount t_2_46 t_2_27
theorem d_S_signatureOf_0 : decode mi_S_signatureOf.2.1 0 = .ok (.aload_n 0, 1) := by decide +kernel
theorem d_S_signatureOf_1 : decode mi_S_signatureOf.2.1 1 = .ok (.getfield 19, 3) := by decide +kernel
theorem d_S_signatureOf_4 : decode mi_S_signatureOf.2.1 4 = .ok (.iload_n 1, 1) := by decide +kernel
theorem d_S_signatureOf_5 : decode mi_S_signatureOf.2.1 5 = .ok (.invokestatic 44, 3) := by decide +kernel
theorem d_S_signatureOf_8 : decode mi_S_signatureOf.2.1 8 = .ok (.lreturn, 1) := by decide +kernel
theorem s_S_signatureOf_1 : kGet TT cl6 X mi_S_signatureOf 1 5 2 := k_get (index := 19) cK_5 d_S_signatureOf_1 (by decide) ⟨"Miterhouse$Sweeping", Or.inl t_3_208, Or.inl rfl⟩
theorem s_S_signatureOf_5 : kCall TT cl6 X mi_S_signatureOf 5 3 mi_M_wordAt 4 2 0 := k_staticN (index := 44) d_S_signatureOf_5 cs_M_wordAt rfl t_5_167 t_1_154
theorem d_S_targetOf_0 : decode mi_S_targetOf.2.1 0 = .ok (.aload_n 0, 1) := by decide +kernel
theorem d_S_targetOf_1 : decode mi_S_targetOf.2.1 1 = .ok (.getfield 23, 3) := by decide +kernel
theorem d_S_targetOf_4 : decode mi_S_targetOf.2.1 4 = .ok (.iload_n 1, 1) := by decide +kernel
theorem d_S_targetOf_5 : decode mi_S_targetOf.2.1 5 = .ok (.invokestatic 48, 3) := by decide +kernel
theorem d_S_targetOf_8 : decode mi_S_targetOf.2.1 8 = .ok (.ireturn, 1) := by decide +kernel
theorem s_S_targetOf_1 : kGet TT cl6 X mi_S_targetOf 1 5 3 := k_get (index := 23) cK_5 d_S_targetOf_1 (by decide) ⟨"Miterhouse$Sweeping", Or.inl t_3_209, Or.inl rfl⟩
theorem s_S_targetOf_5 : kCall TT cl6 X mi_S_targetOf 5 3 mi_M_numberAt 4 2 0 := k_staticN (index := 48) d_S_targetOf_5 cs_M_numberAt rfl t_2_7 t_1_138
theorem d_K_init_0 : decode mi_K_init.2.1 0 = .ok (.aload_n 0, 1) := by decide +kernel
theorem d_K_init_1 : decode mi_K_init.2.1 1 = .ok (.invokespecial 3, 3) := by decide +kernel
theorem d_K_init_4 : decode mi_K_init.2.1 4 = .ok (.aload_n 0, 1) := by decide +kernel
theorem d_K_init_5 : decode mi_K_init.2.1 5 = .ok (.bipush (32), 2) := by decide +kernel
theorem d_K_init_7 : decode mi_K_init.2.1 7 = .ok (.newarray .long, 2) := by decide +kernel
theorem d_K_init_9 : decode mi_K_init.2.1 9 = .ok (.putfield 9, 3) := by decide +kernel
theorem d_K_init_12 : decode mi_K_init.2.1 12 = .ok (.aload_n 0, 1) := by decide +kernel
theorem d_K_init_13 : decode mi_K_init.2.1 13 = .ok (.bipush (64), 2) := by decide +kernel
theorem d_K_init_15 : decode mi_K_init.2.1 15 = .ok (.newarray .int, 2) := by decide +kernel
theorem d_K_init_17 : decode mi_K_init.2.1 17 = .ok (.putfield 15, 3) := by decide +kernel
theorem d_K_init_20 : decode mi_K_init.2.1 20 = .ok (.aload_n 0, 1) := by decide +kernel
theorem d_K_init_21 : decode mi_K_init.2.1 21 = .ok (.bipush (64), 2) := by decide +kernel
theorem d_K_init_23 : decode mi_K_init.2.1 23 = .ok (.newarray .int, 2) := by decide +kernel
theorem d_K_init_25 : decode mi_K_init.2.1 25 = .ok (.putfield 19, 3) := by decide +kernel
theorem d_K_init_28 : decode mi_K_init.2.1 28 = .ok (.aload_n 0, 1) := by decide +kernel
theorem d_K_init_29 : decode mi_K_init.2.1 29 = .ok (.iconst (0), 1) := by decide +kernel
theorem d_K_init_30 : decode mi_K_init.2.1 30 = .ok (.putfield 22, 3) := by decide +kernel
theorem d_K_init_33 : decode mi_K_init.2.1 33 = .ok (.aload_n 0, 1) := by decide +kernel
theorem d_K_init_34 : decode mi_K_init.2.1 34 = .ok (.iconst (1), 1) := by decide +kernel
theorem d_K_init_35 : decode mi_K_init.2.1 35 = .ok (.putfield 26, 3) := by decide +kernel
theorem d_K_init_38 : decode mi_K_init.2.1 38 = .ok (.return_, 1) := by decide +kernel
theorem s_K_init_1 : kObj TT cl6 X mi_K_init 1 := k_obj (index := 3) d_K_init_1 t_4_9 t_1_36 t_1_37
theorem s_K_init_9 : kPut TT cl6 X mi_K_init 9 11 0 (.array .long) := k_put (index := 9) cK_11 d_K_init_9 (by decide) ⟨"Miterhouse$Keys", Or.inl t_4_10, Or.inl rfl⟩ rfl
theorem s_K_init_17 : kPut TT cl6 X mi_K_init 17 11 1 (.array .int) := k_put (index := 15) cK_11 d_K_init_17 (by decide) ⟨"Miterhouse$Keys", Or.inl t_4_11, Or.inl rfl⟩ rfl
theorem s_K_init_25 : kPut TT cl6 X mi_K_init 25 11 2 (.array .int) := k_put (index := 19) cK_11 d_K_init_25 (by decide) ⟨"Miterhouse$Keys", Or.inl t_4_12, Or.inl rfl⟩ rfl
theorem s_K_init_30 : kPut TT cl6 X mi_K_init 30 11 3 .int := k_put (index := 22) cK_11 d_K_init_30 (by decide) ⟨"Miterhouse$Keys", Or.inl t_4_13, Or.inl rfl⟩ rfl
theorem s_K_init_35 : kPut TT cl6 X mi_K_init 35 11 4 .int := k_put (index := 26) cK_11 d_K_init_35 (by decide) ⟨"Miterhouse$Keys", Or.inl t_4_14, Or.inl rfl⟩ rfl
theorem d_D_init_0 : decode mi_D_init.2.1 0 = .ok (.aload_n 0, 1) := by decide +kernel
theorem d_D_init_1 : decode mi_D_init.2.1 1 = .ok (.invokespecial 3, 3) := by decide +kernel
theorem d_D_init_4 : decode mi_D_init.2.1 4 = .ok (.aload_n 0, 1) := by decide +kernel
theorem d_D_init_5 : decode mi_D_init.2.1 5 = .ok (.aload_n 1, 1) := by decide +kernel
theorem d_D_init_6 : decode mi_D_init.2.1 6 = .ok (.putfield 9, 3) := by decide +kernel
theorem d_D_init_9 : decode mi_D_init.2.1 9 = .ok (.aload_n 0, 1) := by decide +kernel
theorem d_D_init_10 : decode mi_D_init.2.1 10 = .ok (.aload_n 2, 1) := by decide +kernel
theorem d_D_init_11 : decode mi_D_init.2.1 11 = .ok (.putfield 15, 3) := by decide +kernel
theorem d_D_init_14 : decode mi_D_init.2.1 14 = .ok (.aload_n 0, 1) := by decide +kernel
theorem d_D_init_15 : decode mi_D_init.2.1 15 = .ok (.aload_n 2, 1) := by decide +kernel
theorem d_D_init_16 : decode mi_D_init.2.1 16 = .ok (.getfield 19, 3) := by decide +kernel
theorem d_D_init_19 : decode mi_D_init.2.1 19 = .ok (.putfield 25, 3) := by decide +kernel
theorem d_D_init_22 : decode mi_D_init.2.1 22 = .ok (.aload_n 0, 1) := by decide +kernel
theorem d_D_init_23 : decode mi_D_init.2.1 23 = .ok (.aload_n 2, 1) := by decide +kernel
theorem d_D_init_24 : decode mi_D_init.2.1 24 = .ok (.getfield 26, 3) := by decide +kernel
theorem d_D_init_27 : decode mi_D_init.2.1 27 = .ok (.putfield 29, 3) := by decide +kernel
theorem d_D_init_30 : decode mi_D_init.2.1 30 = .ok (.aload_n 0, 1) := by decide +kernel
theorem d_D_init_31 : decode mi_D_init.2.1 31 = .ok (.aload_n 2, 1) := by decide +kernel
theorem d_D_init_32 : decode mi_D_init.2.1 32 = .ok (.getfield 19, 3) := by decide +kernel
theorem d_D_init_35 : decode mi_D_init.2.1 35 = .ok (.newarray .int, 2) := by decide +kernel
theorem d_D_init_37 : decode mi_D_init.2.1 37 = .ok (.putfield 30, 3) := by decide +kernel
theorem d_D_init_40 : decode mi_D_init.2.1 40 = .ok (.aload_n 0, 1) := by decide +kernel
theorem d_D_init_41 : decode mi_D_init.2.1 41 = .ok (.aload_n 2, 1) := by decide +kernel
theorem d_D_init_42 : decode mi_D_init.2.1 42 = .ok (.getfield 19, 3) := by decide +kernel
theorem d_D_init_45 : decode mi_D_init.2.1 45 = .ok (.newarray .int, 2) := by decide +kernel
theorem d_D_init_47 : decode mi_D_init.2.1 47 = .ok (.putfield 34, 3) := by decide +kernel
theorem d_D_init_50 : decode mi_D_init.2.1 50 = .ok (.iconst (0), 1) := by decide +kernel
theorem d_D_init_51 : decode mi_D_init.2.1 51 = .ok (.istore_n 3, 1) := by decide +kernel
theorem d_D_init_52 : decode mi_D_init.2.1 52 = .ok (.iload_n 3, 1) := by decide +kernel
theorem d_D_init_53 : decode mi_D_init.2.1 53 = .ok (.aload_n 0, 1) := by decide +kernel
theorem d_D_init_54 : decode mi_D_init.2.1 54 = .ok (.getfield 30, 3) := by decide +kernel
theorem d_D_init_57 : decode mi_D_init.2.1 57 = .ok (.arraylength, 1) := by decide +kernel
theorem d_D_init_58 : decode mi_D_init.2.1 58 = .ok (.if_icmp .ge (16), 3) := by decide +kernel
theorem d_D_init_61 : decode mi_D_init.2.1 61 = .ok (.aload_n 0, 1) := by decide +kernel
theorem d_D_init_62 : decode mi_D_init.2.1 62 = .ok (.getfield 30, 3) := by decide +kernel
theorem d_D_init_65 : decode mi_D_init.2.1 65 = .ok (.iload_n 3, 1) := by decide +kernel
theorem d_D_init_66 : decode mi_D_init.2.1 66 = .ok (.iload_n 3, 1) := by decide +kernel
theorem d_D_init_67 : decode mi_D_init.2.1 67 = .ok (.iastore, 1) := by decide +kernel
theorem d_D_init_68 : decode mi_D_init.2.1 68 = .ok (.iinc 3 (1), 3) := by decide +kernel
theorem d_D_init_71 : decode mi_D_init.2.1 71 = .ok (.goto (-19), 3) := by decide +kernel
theorem d_D_init_74 : decode mi_D_init.2.1 74 = .ok (.aload_n 0, 1) := by decide +kernel
theorem d_D_init_75 : decode mi_D_init.2.1 75 = .ok (.bipush (8), 2) := by decide +kernel
theorem d_D_init_77 : decode mi_D_init.2.1 77 = .ok (.aload_n 2, 1) := by decide +kernel
theorem d_D_init_78 : decode mi_D_init.2.1 78 = .ok (.getfield 26, 3) := by decide +kernel
theorem d_D_init_81 : decode mi_D_init.2.1 81 = .ok (.imul, 1) := by decide +kernel
theorem d_D_init_82 : decode mi_D_init.2.1 82 = .ok (.newarray .long, 2) := by decide +kernel
theorem d_D_init_84 : decode mi_D_init.2.1 84 = .ok (.putfield 37, 3) := by decide +kernel
theorem d_D_init_87 : decode mi_D_init.2.1 87 = .ok (.aload_n 0, 1) := by decide +kernel
theorem d_D_init_88 : decode mi_D_init.2.1 88 = .ok (.bipush (8), 2) := by decide +kernel
theorem d_D_init_90 : decode mi_D_init.2.1 90 = .ok (.aload_n 2, 1) := by decide +kernel
theorem d_D_init_91 : decode mi_D_init.2.1 91 = .ok (.getfield 26, 3) := by decide +kernel
theorem d_D_init_94 : decode mi_D_init.2.1 94 = .ok (.imul, 1) := by decide +kernel
theorem d_D_init_95 : decode mi_D_init.2.1 95 = .ok (.newarray .int, 2) := by decide +kernel
theorem d_D_init_97 : decode mi_D_init.2.1 97 = .ok (.putfield 41, 3) := by decide +kernel
theorem d_D_init_100 : decode mi_D_init.2.1 100 = .ok (.aload_n 0, 1) := by decide +kernel
theorem d_D_init_101 : decode mi_D_init.2.1 101 = .ok (.new 44, 3) := by decide +kernel
theorem d_D_init_104 : decode mi_D_init.2.1 104 = .ok (.dup, 1) := by decide +kernel
theorem d_D_init_105 : decode mi_D_init.2.1 105 = .ok (.invokespecial 46, 3) := by decide +kernel
theorem d_D_init_108 : decode mi_D_init.2.1 108 = .ok (.putfield 47, 3) := by decide +kernel
theorem d_D_init_111 : decode mi_D_init.2.1 111 = .ok (.aload_n 0, 1) := by decide +kernel
theorem d_D_init_112 : decode mi_D_init.2.1 112 = .ok (.new 44, 3) := by decide +kernel
theorem d_D_init_115 : decode mi_D_init.2.1 115 = .ok (.dup, 1) := by decide +kernel
theorem d_D_init_116 : decode mi_D_init.2.1 116 = .ok (.invokespecial 46, 3) := by decide +kernel
theorem d_D_init_119 : decode mi_D_init.2.1 119 = .ok (.putfield 51, 3) := by decide +kernel
theorem d_D_init_122 : decode mi_D_init.2.1 122 = .ok (.aload_n 0, 1) := by decide +kernel
theorem d_D_init_123 : decode mi_D_init.2.1 123 = .ok (.iconst (0), 1) := by decide +kernel
theorem d_D_init_124 : decode mi_D_init.2.1 124 = .ok (.putfield 54, 3) := by decide +kernel
theorem d_D_init_127 : decode mi_D_init.2.1 127 = .ok (.return_, 1) := by decide +kernel
theorem s_D_init_1 : kObj TT cl6 X mi_D_init 1 := k_obj (index := 3) d_D_init_1 t_4_3 t_1_36 t_1_37
theorem s_D_init_6 : kPut TT cl6 X mi_D_init 6 7 0 (.object "Miterhouse$Nets") := k_putF (index := 9) cK_7 d_D_init_6 (by decide) t_4_26 rfl rfl rfl
theorem s_D_init_11 : kPut TT cl6 X mi_D_init 11 7 1 (.object "Miterhouse$Values") := k_putF (index := 15) cK_7 d_D_init_11 (by decide) t_4_27 rfl rfl rfl
theorem s_D_init_16 : kGet TT cl6 X mi_D_init 16 3 1 := k_get (index := 19) cK_3 d_D_init_16 (by decide) ⟨"Miterhouse$Values", Or.inl t_3_127, Or.inl rfl⟩
theorem s_D_init_19 : kPut TT cl6 X mi_D_init 19 7 2 .int := k_putF (index := 25) cK_7 d_D_init_19 (by decide) t_4_28 rfl rfl rfl
theorem s_D_init_24 : kGet TT cl6 X mi_D_init 24 3 2 := k_get (index := 26) cK_3 d_D_init_24 (by decide) ⟨"Miterhouse$Values", Or.inl t_3_131, Or.inl rfl⟩
theorem s_D_init_27 : kPut TT cl6 X mi_D_init 27 7 3 .int := k_putF (index := 29) cK_7 d_D_init_27 (by decide) t_4_29 rfl rfl rfl
theorem s_D_init_32 : kGet TT cl6 X mi_D_init 32 3 1 := k_get (index := 19) cK_3 d_D_init_32 (by decide) ⟨"Miterhouse$Values", Or.inl t_3_127, Or.inl rfl⟩
theorem s_D_init_37 : kPut TT cl6 X mi_D_init 37 7 4 (.array .int) := k_putF (index := 30) cK_7 d_D_init_37 (by decide) t_4_30 rfl rfl rfl
theorem s_D_init_42 : kGet TT cl6 X mi_D_init 42 3 1 := k_get (index := 19) cK_3 d_D_init_42 (by decide) ⟨"Miterhouse$Values", Or.inl t_3_127, Or.inl rfl⟩
theorem s_D_init_47 : kPut TT cl6 X mi_D_init 47 7 5 (.array .int) := k_putF (index := 34) cK_7 d_D_init_47 (by decide) t_4_31 rfl rfl rfl
theorem s_D_init_54 : kGet TT cl6 X mi_D_init 54 7 4 := k_get (index := 30) cK_7 d_D_init_54 (by decide) ⟨"Miterhouse$Diagrams", Or.inl t_4_30, Or.inl rfl⟩
theorem s_D_init_62 : kGet TT cl6 X mi_D_init 62 7 4 := k_get (index := 30) cK_7 d_D_init_62 (by decide) ⟨"Miterhouse$Diagrams", Or.inl t_4_30, Or.inl rfl⟩
theorem s_D_init_78 : kGet TT cl6 X mi_D_init 78 3 2 := k_get (index := 26) cK_3 d_D_init_78 (by decide) ⟨"Miterhouse$Values", Or.inl t_3_131, Or.inl rfl⟩
theorem s_D_init_84 : kPut TT cl6 X mi_D_init 84 7 6 (.array .long) := k_putF (index := 37) cK_7 d_D_init_84 (by decide) t_4_32 rfl rfl rfl
theorem s_D_init_91 : kGet TT cl6 X mi_D_init 91 3 2 := k_get (index := 26) cK_3 d_D_init_91 (by decide) ⟨"Miterhouse$Values", Or.inl t_3_131, Or.inl rfl⟩
theorem s_D_init_97 : kPut TT cl6 X mi_D_init 97 7 7 (.array .int) := k_putF (index := 41) cK_7 d_D_init_97 (by decide) t_4_33 rfl rfl rfl
theorem s_D_init_101 : kNew TT cl6 X mi_D_init 101 11 5 [.null, .null, .null, .int 0, .int 0] := k_new (index := 44) cK_11 d_D_init_101 t_4_4 t_4_5 t_1_13 (by decide +kernel) (by decide)
theorem s_D_init_105 : kCall TT cl6 X mi_D_init 105 3 mi_K_init 3 1 0 := k_init (index := 46) d_D_init_105 cs_K_init rfl rfl rfl t_4_6 t_4_7
theorem s_D_init_108 : kPut TT cl6 X mi_D_init 108 7 8 (.object "Miterhouse$Keys") := k_putF (index := 47) cK_7 d_D_init_108 (by decide) t_4_34 rfl rfl rfl
theorem s_D_init_112 : kNew TT cl6 X mi_D_init 112 11 5 [.null, .null, .null, .int 0, .int 0] := k_new (index := 44) cK_11 d_D_init_112 t_4_4 t_4_5 t_1_13 (by decide +kernel) (by decide)
theorem s_D_init_116 : kCall TT cl6 X mi_D_init 116 3 mi_K_init 3 1 0 := k_init (index := 46) d_D_init_116 cs_K_init rfl rfl rfl t_4_6 t_4_7
theorem s_D_init_119 : kPut TT cl6 X mi_D_init 119 7 9 (.object "Miterhouse$Keys") := k_putF (index := 51) cK_7 d_D_init_119 (by decide) t_4_35 rfl rfl rfl
theorem s_D_init_124 : kPut TT cl6 X mi_D_init 124 7 10 .int := k_put (index := 54) cK_7 d_D_init_124 (by decide) ⟨"Miterhouse$Diagrams", Or.inl t_4_36, Or.inl rfl⟩ rfl
theorem d_C_init_0 : decode mi_C_init.2.1 0 = .ok (.aload_n 0, 1) := by decide +kernel
theorem d_C_init_1 : decode mi_C_init.2.1 1 = .ok (.invokespecial 3, 3) := by decide +kernel
theorem d_C_init_4 : decode mi_C_init.2.1 4 = .ok (.aload_n 0, 1) := by decide +kernel
theorem d_C_init_5 : decode mi_C_init.2.1 5 = .ok (.aload_n 1, 1) := by decide +kernel
theorem d_C_init_6 : decode mi_C_init.2.1 6 = .ok (.putfield 9, 3) := by decide +kernel
theorem d_C_init_9 : decode mi_C_init.2.1 9 = .ok (.aload_n 0, 1) := by decide +kernel
theorem d_C_init_10 : decode mi_C_init.2.1 10 = .ok (.iload_n 2, 1) := by decide +kernel
theorem d_C_init_11 : decode mi_C_init.2.1 11 = .ok (.putfield 15, 3) := by decide +kernel
theorem d_C_init_14 : decode mi_C_init.2.1 14 = .ok (.aload_n 0, 1) := by decide +kernel
theorem d_C_init_15 : decode mi_C_init.2.1 15 = .ok (.sipush (257), 3) := by decide +kernel
theorem d_C_init_18 : decode mi_C_init.2.1 18 = .ok (.newarray .int, 2) := by decide +kernel
theorem d_C_init_20 : decode mi_C_init.2.1 20 = .ok (.putfield 19, 3) := by decide +kernel
theorem d_C_init_23 : decode mi_C_init.2.1 23 = .ok (.aload_n 0, 1) := by decide +kernel
theorem d_C_init_24 : decode mi_C_init.2.1 24 = .ok (.sipush (256), 3) := by decide +kernel
theorem d_C_init_27 : decode mi_C_init.2.1 27 = .ok (.newarray .int, 2) := by decide +kernel
theorem d_C_init_29 : decode mi_C_init.2.1 29 = .ok (.putfield 23, 3) := by decide +kernel
theorem d_C_init_32 : decode mi_C_init.2.1 32 = .ok (.aload_n 0, 1) := by decide +kernel
theorem d_C_init_33 : decode mi_C_init.2.1 33 = .ok (.new 26, 3) := by decide +kernel
theorem d_C_init_36 : decode mi_C_init.2.1 36 = .ok (.dup, 1) := by decide +kernel
theorem d_C_init_37 : decode mi_C_init.2.1 37 = .ok (.invokespecial 28, 3) := by decide +kernel
theorem d_C_init_40 : decode mi_C_init.2.1 40 = .ok (.putfield 29, 3) := by decide +kernel
theorem d_C_init_43 : decode mi_C_init.2.1 43 = .ok (.aload_n 0, 1) := by decide +kernel
theorem d_C_init_44 : decode mi_C_init.2.1 44 = .ok (.bipush (64), 2) := by decide +kernel
theorem d_C_init_46 : decode mi_C_init.2.1 46 = .ok (.newarray .long, 2) := by decide +kernel
theorem d_C_init_48 : decode mi_C_init.2.1 48 = .ok (.putfield 33, 3) := by decide +kernel
theorem d_C_init_51 : decode mi_C_init.2.1 51 = .ok (.aload_n 0, 1) := by decide +kernel
theorem d_C_init_52 : decode mi_C_init.2.1 52 = .ok (.iconst (0), 1) := by decide +kernel
theorem d_C_init_53 : decode mi_C_init.2.1 53 = .ok (.putfield 37, 3) := by decide +kernel
theorem d_C_init_56 : decode mi_C_init.2.1 56 = .ok (.aload_n 0, 1) := by decide +kernel
theorem d_C_init_57 : decode mi_C_init.2.1 57 = .ok (.iconst (0), 1) := by decide +kernel
theorem d_C_init_58 : decode mi_C_init.2.1 58 = .ok (.putfield 40, 3) := by decide +kernel
theorem d_C_init_61 : decode mi_C_init.2.1 61 = .ok (.return_, 1) := by decide +kernel
theorem s_C_init_1 : kObj TT cl6 X mi_C_init 1 := k_obj (index := 3) d_C_init_1 t_4_65 t_1_36 t_1_37
theorem s_C_init_6 : kPut TT cl6 X mi_C_init 6 8 0 (.object "Miterhouse$Ands") := k_putF (index := 9) cK_8 d_C_init_6 (by decide) t_4_68 rfl rfl rfl
theorem s_C_init_11 : kPut TT cl6 X mi_C_init 11 8 1 .int := k_putF (index := 15) cK_8 d_C_init_11 (by decide) t_4_69 rfl rfl rfl
theorem s_C_init_20 : kPut TT cl6 X mi_C_init 20 8 2 (.array .int) := k_putF (index := 19) cK_8 d_C_init_20 (by decide) t_4_70 rfl rfl rfl
theorem s_C_init_29 : kPut TT cl6 X mi_C_init 29 8 3 (.array .int) := k_putF (index := 23) cK_8 d_C_init_29 (by decide) t_4_71 rfl rfl rfl
theorem s_C_init_33 : kNew TT cl6 X mi_C_init 33 11 5 [.null, .null, .null, .int 0, .int 0] := k_new (index := 26) cK_11 d_C_init_33 t_4_66 t_4_5 t_1_13 (by decide +kernel) (by decide)
theorem s_C_init_37 : kCall TT cl6 X mi_C_init 37 3 mi_K_init 3 1 0 := k_init (index := 28) d_C_init_37 cs_K_init rfl rfl rfl t_4_67 t_4_7
theorem s_C_init_40 : kPut TT cl6 X mi_C_init 40 8 4 (.object "Miterhouse$Keys") := k_putF (index := 29) cK_8 d_C_init_40 (by decide) t_4_72 rfl rfl rfl
theorem s_C_init_48 : kPut TT cl6 X mi_C_init 48 8 5 (.array .long) := k_put (index := 33) cK_8 d_C_init_48 (by decide) ⟨"Miterhouse$Cuts", Or.inl t_4_73, Or.inl rfl⟩ rfl
theorem s_C_init_53 : kPut TT cl6 X mi_C_init 53 8 6 .int := k_put (index := 37) cK_8 d_C_init_53 (by decide) ⟨"Miterhouse$Cuts", Or.inl t_4_74, Or.inl rfl⟩ rfl
theorem s_C_init_58 : kPut TT cl6 X mi_C_init 58 8 7 .boolean := k_put (index := 40) cK_8 d_C_init_58 (by decide) ⟨"Miterhouse$Cuts", Or.inl t_4_75, Or.inl rfl⟩ rfl
theorem d_R_init_0 : decode mi_R_init.2.1 0 = .ok (.aload_n 0, 1) := by decide +kernel
theorem d_R_init_1 : decode mi_R_init.2.1 1 = .ok (.invokespecial 3, 3) := by decide +kernel
theorem d_R_init_4 : decode mi_R_init.2.1 4 = .ok (.aload_n 0, 1) := by decide +kernel
theorem d_R_init_5 : decode mi_R_init.2.1 5 = .ok (.aload_n 1, 1) := by decide +kernel
theorem d_R_init_6 : decode mi_R_init.2.1 6 = .ok (.putfield 9, 3) := by decide +kernel
theorem d_R_init_9 : decode mi_R_init.2.1 9 = .ok (.aload_n 0, 1) := by decide +kernel
theorem d_R_init_10 : decode mi_R_init.2.1 10 = .ok (.aload_n 2, 1) := by decide +kernel
theorem d_R_init_11 : decode mi_R_init.2.1 11 = .ok (.putfield 15, 3) := by decide +kernel
theorem d_R_init_14 : decode mi_R_init.2.1 14 = .ok (.aload_n 0, 1) := by decide +kernel
theorem d_R_init_15 : decode mi_R_init.2.1 15 = .ok (.bipush (80), 2) := by decide +kernel
theorem d_R_init_17 : decode mi_R_init.2.1 17 = .ok (.newarray .long, 2) := by decide +kernel
theorem d_R_init_19 : decode mi_R_init.2.1 19 = .ok (.putfield 19, 3) := by decide +kernel
theorem d_R_init_22 : decode mi_R_init.2.1 22 = .ok (.aload_n 0, 1) := by decide +kernel
theorem d_R_init_23 : decode mi_R_init.2.1 23 = .ok (.bipush (80), 2) := by decide +kernel
theorem d_R_init_25 : decode mi_R_init.2.1 25 = .ok (.newarray .int, 2) := by decide +kernel
theorem d_R_init_27 : decode mi_R_init.2.1 27 = .ok (.putfield 23, 3) := by decide +kernel
theorem d_R_init_30 : decode mi_R_init.2.1 30 = .ok (.aload_n 0, 1) := by decide +kernel
theorem d_R_init_31 : decode mi_R_init.2.1 31 = .ok (.iconst (-1), 1) := by decide +kernel
theorem d_R_init_32 : decode mi_R_init.2.1 32 = .ok (.putfield 27, 3) := by decide +kernel
theorem d_R_init_35 : decode mi_R_init.2.1 35 = .ok (.return_, 1) := by decide +kernel
theorem s_R_init_1 : kObj TT cl6 X mi_R_init 1 := k_obj (index := 3) d_R_init_1 t_4_98 t_1_36 t_1_37
theorem s_R_init_6 : kPut TT cl6 X mi_R_init 6 9 0 (.object "Miterhouse$Nets") := k_putF (index := 9) cK_9 d_R_init_6 (by decide) t_4_99 rfl rfl rfl
theorem s_R_init_11 : kPut TT cl6 X mi_R_init 11 9 1 (.object "Miterhouse$Values") := k_putF (index := 15) cK_9 d_R_init_11 (by decide) t_4_100 rfl rfl rfl
theorem s_R_init_19 : kPut TT cl6 X mi_R_init 19 9 2 (.array .long) := k_putF (index := 19) cK_9 d_R_init_19 (by decide) t_4_101 rfl rfl rfl
theorem s_R_init_27 : kPut TT cl6 X mi_R_init 27 9 3 (.array .int) := k_putF (index := 23) cK_9 d_R_init_27 (by decide) t_4_102 rfl rfl rfl
theorem s_R_init_32 : kPut TT cl6 X mi_R_init 32 9 4 .int := k_put (index := 27) cK_9 d_R_init_32 (by decide) ⟨"Miterhouse$Care", Or.inl t_4_103, Or.inl rfl⟩ rfl
theorem d_G_init_0 : decode mi_G_init.2.1 0 = .ok (.aload_n 0, 1) := by decide +kernel
theorem d_G_init_1 : decode mi_G_init.2.1 1 = .ok (.invokespecial 3, 3) := by decide +kernel
theorem d_G_init_4 : decode mi_G_init.2.1 4 = .ok (.aload_n 0, 1) := by decide +kernel
theorem d_G_init_5 : decode mi_G_init.2.1 5 = .ok (.aload_n 1, 1) := by decide +kernel
theorem d_G_init_6 : decode mi_G_init.2.1 6 = .ok (.putfield 9, 3) := by decide +kernel
theorem d_G_init_9 : decode mi_G_init.2.1 9 = .ok (.aload_n 0, 1) := by decide +kernel
theorem d_G_init_10 : decode mi_G_init.2.1 10 = .ok (.aload_n 2, 1) := by decide +kernel
theorem d_G_init_11 : decode mi_G_init.2.1 11 = .ok (.putfield 15, 3) := by decide +kernel
theorem d_G_init_14 : decode mi_G_init.2.1 14 = .ok (.aload_n 0, 1) := by decide +kernel
theorem d_G_init_15 : decode mi_G_init.2.1 15 = .ok (.bipush (80), 2) := by decide +kernel
theorem d_G_init_17 : decode mi_G_init.2.1 17 = .ok (.newarray .int, 2) := by decide +kernel
theorem d_G_init_19 : decode mi_G_init.2.1 19 = .ok (.putfield 19, 3) := by decide +kernel
theorem d_G_init_22 : decode mi_G_init.2.1 22 = .ok (.aload_n 0, 1) := by decide +kernel
theorem d_G_init_23 : decode mi_G_init.2.1 23 = .ok (.bipush (80), 2) := by decide +kernel
theorem d_G_init_25 : decode mi_G_init.2.1 25 = .ok (.newarray .int, 2) := by decide +kernel
theorem d_G_init_27 : decode mi_G_init.2.1 27 = .ok (.putfield 23, 3) := by decide +kernel
theorem d_G_init_30 : decode mi_G_init.2.1 30 = .ok (.aload_n 0, 1) := by decide +kernel
theorem d_G_init_31 : decode mi_G_init.2.1 31 = .ok (.iconst (-1), 1) := by decide +kernel
theorem d_G_init_32 : decode mi_G_init.2.1 32 = .ok (.putfield 26, 3) := by decide +kernel
theorem d_G_init_35 : decode mi_G_init.2.1 35 = .ok (.return_, 1) := by decide +kernel
theorem s_G_init_1 : kObj TT cl6 X mi_G_init 1 := k_obj (index := 3) d_G_init_1 t_4_120 t_1_36 t_1_37
theorem s_G_init_6 : kPut TT cl6 X mi_G_init 6 10 0 (.object "Miterhouse$Nets") := k_putF (index := 9) cK_10 d_G_init_6 (by decide) t_4_121 rfl rfl rfl
theorem s_G_init_11 : kPut TT cl6 X mi_G_init 11 10 1 (.object "Miterhouse$Values") := k_putF (index := 15) cK_10 d_G_init_11 (by decide) t_4_122 rfl rfl rfl
theorem s_G_init_19 : kPut TT cl6 X mi_G_init 19 10 2 (.array .int) := k_putF (index := 19) cK_10 d_G_init_19 (by decide) t_4_123 rfl rfl rfl
theorem s_G_init_27 : kPut TT cl6 X mi_G_init 27 10 3 (.array .int) := k_putF (index := 23) cK_10 d_G_init_27 (by decide) t_4_124 rfl rfl rfl
theorem s_G_init_32 : kPut TT cl6 X mi_G_init 32 10 4 .int := k_put (index := 26) cK_10 d_G_init_32 (by decide) ⟨"Miterhouse$Registers", Or.inl t_4_125, Or.inl rfl⟩ rfl
theorem d_T_init_0 : decode mi_T_init.2.1 0 = .ok (.aload_n 0, 1) := by decide +kernel
theorem d_T_init_1 : decode mi_T_init.2.1 1 = .ok (.invokespecial 1, 3) := by decide +kernel
theorem d_T_init_4 : decode mi_T_init.2.1 4 = .ok (.aload_n 0, 1) := by decide +kernel
theorem d_T_init_5 : decode mi_T_init.2.1 5 = .ok (.aload_n 1, 1) := by decide +kernel
theorem d_T_init_6 : decode mi_T_init.2.1 6 = .ok (.putfield 7, 3) := by decide +kernel
theorem d_T_init_9 : decode mi_T_init.2.1 9 = .ok (.aload_n 0, 1) := by decide +kernel
theorem d_T_init_10 : decode mi_T_init.2.1 10 = .ok (.aload_n 2, 1) := by decide +kernel
theorem d_T_init_11 : decode mi_T_init.2.1 11 = .ok (.putfield 13, 3) := by decide +kernel
theorem d_T_init_14 : decode mi_T_init.2.1 14 = .ok (.aload_n 0, 1) := by decide +kernel
theorem d_T_init_15 : decode mi_T_init.2.1 15 = .ok (.aload_n 1, 1) := by decide +kernel
theorem d_T_init_16 : decode mi_T_init.2.1 16 = .ok (.getfield 17, 3) := by decide +kernel
theorem d_T_init_19 : decode mi_T_init.2.1 19 = .ok (.aload_n 2, 1) := by decide +kernel
theorem d_T_init_20 : decode mi_T_init.2.1 20 = .ok (.getfield 23, 3) := by decide +kernel
theorem d_T_init_23 : decode mi_T_init.2.1 23 = .ok (.invokestatic 28, 3) := by decide +kernel
theorem d_T_init_26 : decode mi_T_init.2.1 26 = .ok (.putfield 34, 3) := by decide +kernel
theorem d_T_init_29 : decode mi_T_init.2.1 29 = .ok (.aload_n 0, 1) := by decide +kernel
theorem d_T_init_30 : decode mi_T_init.2.1 30 = .ok (.iconst (1), 1) := by decide +kernel
theorem d_T_init_31 : decode mi_T_init.2.1 31 = .ok (.iconst (0), 1) := by decide +kernel
theorem d_T_init_32 : decode mi_T_init.2.1 32 = .ok (.aload_n 2, 1) := by decide +kernel
theorem d_T_init_33 : decode mi_T_init.2.1 33 = .ok (.getfield 23, 3) := by decide +kernel
theorem d_T_init_36 : decode mi_T_init.2.1 36 = .ok (.aload_n 1, 1) := by decide +kernel
theorem d_T_init_37 : decode mi_T_init.2.1 37 = .ok (.getfield 17, 3) := by decide +kernel
theorem d_T_init_40 : decode mi_T_init.2.1 40 = .ok (.isub, 1) := by decide +kernel
theorem d_T_init_41 : decode mi_T_init.2.1 41 = .ok (.invokestatic 35, 3) := by decide +kernel
theorem d_T_init_44 : decode mi_T_init.2.1 44 = .ok (.ishl, 1) := by decide +kernel
theorem d_T_init_45 : decode mi_T_init.2.1 45 = .ok (.putfield 38, 3) := by decide +kernel
theorem d_T_init_48 : decode mi_T_init.2.1 48 = .ok (.aload_n 0, 1) := by decide +kernel
theorem d_T_init_49 : decode mi_T_init.2.1 49 = .ok (.iconst (1), 1) := by decide +kernel
theorem d_T_init_50 : decode mi_T_init.2.1 50 = .ok (.aload_n 2, 1) := by decide +kernel
theorem d_T_init_51 : decode mi_T_init.2.1 51 = .ok (.getfield 23, 3) := by decide +kernel
theorem d_T_init_54 : decode mi_T_init.2.1 54 = .ok (.ishl, 1) := by decide +kernel
theorem d_T_init_55 : decode mi_T_init.2.1 55 = .ok (.newarray .int, 2) := by decide +kernel
theorem d_T_init_57 : decode mi_T_init.2.1 57 = .ok (.putfield 41, 3) := by decide +kernel
theorem d_T_init_60 : decode mi_T_init.2.1 60 = .ok (.aload_n 0, 1) := by decide +kernel
theorem d_T_init_61 : decode mi_T_init.2.1 61 = .ok (.aload_n 0, 1) := by decide +kernel
theorem d_T_init_62 : decode mi_T_init.2.1 62 = .ok (.getfield 38, 3) := by decide +kernel
theorem d_T_init_65 : decode mi_T_init.2.1 65 = .ok (.newarray .int, 2) := by decide +kernel
theorem d_T_init_67 : decode mi_T_init.2.1 67 = .ok (.putfield 45, 3) := by decide +kernel
theorem d_T_init_70 : decode mi_T_init.2.1 70 = .ok (.aload_n 0, 1) := by decide +kernel
theorem d_T_init_71 : decode mi_T_init.2.1 71 = .ok (.aload_n 0, 1) := by decide +kernel
theorem d_T_init_72 : decode mi_T_init.2.1 72 = .ok (.getfield 38, 3) := by decide +kernel
theorem d_T_init_75 : decode mi_T_init.2.1 75 = .ok (.newarray .int, 2) := by decide +kernel
theorem d_T_init_77 : decode mi_T_init.2.1 77 = .ok (.putfield 48, 3) := by decide +kernel
theorem d_T_init_80 : decode mi_T_init.2.1 80 = .ok (.aload_n 0, 1) := by decide +kernel
theorem d_T_init_81 : decode mi_T_init.2.1 81 = .ok (.aload_n 0, 1) := by decide +kernel
theorem d_T_init_82 : decode mi_T_init.2.1 82 = .ok (.getfield 38, 3) := by decide +kernel
theorem d_T_init_85 : decode mi_T_init.2.1 85 = .ok (.newarray .int, 2) := by decide +kernel
theorem d_T_init_87 : decode mi_T_init.2.1 87 = .ok (.putfield 51, 3) := by decide +kernel
theorem d_T_init_90 : decode mi_T_init.2.1 90 = .ok (.aload_n 0, 1) := by decide +kernel
theorem d_T_init_91 : decode mi_T_init.2.1 91 = .ok (.aload_n 0, 1) := by decide +kernel
theorem d_T_init_92 : decode mi_T_init.2.1 92 = .ok (.getfield 38, 3) := by decide +kernel
theorem d_T_init_95 : decode mi_T_init.2.1 95 = .ok (.newarray .int, 2) := by decide +kernel
theorem d_T_init_97 : decode mi_T_init.2.1 97 = .ok (.putfield 54, 3) := by decide +kernel
theorem d_T_init_100 : decode mi_T_init.2.1 100 = .ok (.aload_n 0, 1) := by decide +kernel
theorem d_T_init_101 : decode mi_T_init.2.1 101 = .ok (.aload_n 0, 1) := by decide +kernel
theorem d_T_init_102 : decode mi_T_init.2.1 102 = .ok (.getfield 38, 3) := by decide +kernel
theorem d_T_init_105 : decode mi_T_init.2.1 105 = .ok (.newarray .int, 2) := by decide +kernel
theorem d_T_init_107 : decode mi_T_init.2.1 107 = .ok (.putfield 57, 3) := by decide +kernel
theorem d_T_init_110 : decode mi_T_init.2.1 110 = .ok (.aload_n 0, 1) := by decide +kernel
theorem d_T_init_111 : decode mi_T_init.2.1 111 = .ok (.aload_n 0, 1) := by decide +kernel
theorem d_T_init_112 : decode mi_T_init.2.1 112 = .ok (.getfield 38, 3) := by decide +kernel
theorem d_T_init_115 : decode mi_T_init.2.1 115 = .ok (.newarray .int, 2) := by decide +kernel
theorem d_T_init_117 : decode mi_T_init.2.1 117 = .ok (.putfield 60, 3) := by decide +kernel
theorem d_T_init_120 : decode mi_T_init.2.1 120 = .ok (.aload_n 0, 1) := by decide +kernel
theorem d_T_init_121 : decode mi_T_init.2.1 121 = .ok (.aload_n 0, 1) := by decide +kernel
theorem d_T_init_122 : decode mi_T_init.2.1 122 = .ok (.getfield 38, 3) := by decide +kernel
theorem d_T_init_125 : decode mi_T_init.2.1 125 = .ok (.newarray .int, 2) := by decide +kernel
theorem d_T_init_127 : decode mi_T_init.2.1 127 = .ok (.putfield 63, 3) := by decide +kernel
theorem d_T_init_130 : decode mi_T_init.2.1 130 = .ok (.aload_n 0, 1) := by decide +kernel
theorem d_T_init_131 : decode mi_T_init.2.1 131 = .ok (.iconst (0), 1) := by decide +kernel
theorem d_T_init_132 : decode mi_T_init.2.1 132 = .ok (.putfield 66, 3) := by decide +kernel
theorem d_T_init_135 : decode mi_T_init.2.1 135 = .ok (.aload_n 0, 1) := by decide +kernel
theorem d_T_init_136 : decode mi_T_init.2.1 136 = .ok (.iconst (-1), 1) := by decide +kernel
theorem d_T_init_137 : decode mi_T_init.2.1 137 = .ok (.putfield 70, 3) := by decide +kernel
theorem d_T_init_140 : decode mi_T_init.2.1 140 = .ok (.aload_n 0, 1) := by decide +kernel
theorem d_T_init_141 : decode mi_T_init.2.1 141 = .ok (.iconst (0), 1) := by decide +kernel
theorem d_T_init_142 : decode mi_T_init.2.1 142 = .ok (.putfield 73, 3) := by decide +kernel
theorem d_T_init_145 : decode mi_T_init.2.1 145 = .ok (.aload_n 0, 1) := by decide +kernel
theorem d_T_init_146 : decode mi_T_init.2.1 146 = .ok (.iconst (-1), 1) := by decide +kernel
theorem d_T_init_147 : decode mi_T_init.2.1 147 = .ok (.putfield 76, 3) := by decide +kernel
theorem d_T_init_150 : decode mi_T_init.2.1 150 = .ok (.return_, 1) := by decide +kernel
theorem s_T_init_1 : kObj TT cl6 X mi_T_init 1 := k_obj (index := 1) d_T_init_1 t_4_141 t_1_36 t_1_37
theorem s_T_init_6 : kPut TT cl6 X mi_T_init 6 6 0 (.object "Miterhouse$Nets") := k_putF (index := 7) cK_6 d_T_init_6 (by decide) t_4_144 rfl rfl rfl
theorem s_T_init_11 : kPut TT cl6 X mi_T_init 11 6 1 (.object "Miterhouse$Values") := k_putF (index := 13) cK_6 d_T_init_11 (by decide) t_4_145 rfl rfl rfl
theorem s_T_init_16 : kGet TT cl6 X mi_T_init 16 1 12 := k_get (index := 17) cK_1 d_T_init_16 (by decide) ⟨"Miterhouse$Nets", Or.inl t_1_61, Or.inl rfl⟩
theorem s_T_init_20 : kGet TT cl6 X mi_T_init 20 3 1 := k_get (index := 23) cK_3 d_T_init_20 (by decide) ⟨"Miterhouse$Values", Or.inl t_3_128, Or.inl rfl⟩
theorem s_T_init_26 : kPut TT cl6 X mi_T_init 26 6 2 .int := k_putF (index := 34) cK_6 d_T_init_26 (by decide) t_4_146 rfl rfl rfl
theorem s_T_init_33 : kGet TT cl6 X mi_T_init 33 3 1 := k_get (index := 23) cK_3 d_T_init_33 (by decide) ⟨"Miterhouse$Values", Or.inl t_3_128, Or.inl rfl⟩
theorem s_T_init_37 : kGet TT cl6 X mi_T_init 37 1 12 := k_get (index := 17) cK_1 d_T_init_37 (by decide) ⟨"Miterhouse$Nets", Or.inl t_1_61, Or.inl rfl⟩
theorem s_T_init_45 : kPut TT cl6 X mi_T_init 45 6 3 .int := k_putF (index := 38) cK_6 d_T_init_45 (by decide) t_4_147 rfl rfl rfl
theorem s_T_init_51 : kGet TT cl6 X mi_T_init 51 3 1 := k_get (index := 23) cK_3 d_T_init_51 (by decide) ⟨"Miterhouse$Values", Or.inl t_3_128, Or.inl rfl⟩
theorem s_T_init_57 : kPut TT cl6 X mi_T_init 57 6 4 (.array .int) := k_putF (index := 41) cK_6 d_T_init_57 (by decide) t_4_148 rfl rfl rfl
theorem s_T_init_62 : kGet TT cl6 X mi_T_init 62 6 3 := k_get (index := 38) cK_6 d_T_init_62 (by decide) ⟨"Miterhouse$States", Or.inl t_4_147, Or.inl rfl⟩
theorem s_T_init_67 : kPut TT cl6 X mi_T_init 67 6 5 (.array .int) := k_putF (index := 45) cK_6 d_T_init_67 (by decide) t_4_149 rfl rfl rfl
theorem s_T_init_72 : kGet TT cl6 X mi_T_init 72 6 3 := k_get (index := 38) cK_6 d_T_init_72 (by decide) ⟨"Miterhouse$States", Or.inl t_4_147, Or.inl rfl⟩
theorem s_T_init_77 : kPut TT cl6 X mi_T_init 77 6 6 (.array .int) := k_putF (index := 48) cK_6 d_T_init_77 (by decide) t_4_150 rfl rfl rfl
theorem s_T_init_82 : kGet TT cl6 X mi_T_init 82 6 3 := k_get (index := 38) cK_6 d_T_init_82 (by decide) ⟨"Miterhouse$States", Or.inl t_4_147, Or.inl rfl⟩
theorem s_T_init_87 : kPut TT cl6 X mi_T_init 87 6 7 (.array .int) := k_putF (index := 51) cK_6 d_T_init_87 (by decide) t_4_151 rfl rfl rfl
theorem s_T_init_92 : kGet TT cl6 X mi_T_init 92 6 3 := k_get (index := 38) cK_6 d_T_init_92 (by decide) ⟨"Miterhouse$States", Or.inl t_4_147, Or.inl rfl⟩
theorem s_T_init_97 : kPut TT cl6 X mi_T_init 97 6 8 (.array .int) := k_putF (index := 54) cK_6 d_T_init_97 (by decide) t_4_152 rfl rfl rfl
theorem s_T_init_102 : kGet TT cl6 X mi_T_init 102 6 3 := k_get (index := 38) cK_6 d_T_init_102 (by decide) ⟨"Miterhouse$States", Or.inl t_4_147, Or.inl rfl⟩
theorem s_T_init_107 : kPut TT cl6 X mi_T_init 107 6 9 (.array .int) := k_putF (index := 57) cK_6 d_T_init_107 (by decide) t_4_153 rfl rfl rfl
theorem s_T_init_112 : kGet TT cl6 X mi_T_init 112 6 3 := k_get (index := 38) cK_6 d_T_init_112 (by decide) ⟨"Miterhouse$States", Or.inl t_4_147, Or.inl rfl⟩
theorem s_T_init_117 : kPut TT cl6 X mi_T_init 117 6 10 (.array .int) := k_putF (index := 60) cK_6 d_T_init_117 (by decide) t_4_154 rfl rfl rfl
theorem s_T_init_122 : kGet TT cl6 X mi_T_init 122 6 3 := k_get (index := 38) cK_6 d_T_init_122 (by decide) ⟨"Miterhouse$States", Or.inl t_4_147, Or.inl rfl⟩
theorem s_T_init_127 : kPut TT cl6 X mi_T_init 127 6 11 (.array .int) := k_putF (index := 63) cK_6 d_T_init_127 (by decide) t_4_155 rfl rfl rfl
theorem s_T_init_132 : kPut TT cl6 X mi_T_init 132 6 12 .boolean := k_put (index := 66) cK_6 d_T_init_132 (by decide) ⟨"Miterhouse$States", Or.inl t_4_156, Or.inl rfl⟩ rfl
theorem s_T_init_137 : kPut TT cl6 X mi_T_init 137 6 13 .int := k_put (index := 70) cK_6 d_T_init_137 (by decide) ⟨"Miterhouse$States", Or.inl t_4_157, Or.inl rfl⟩ rfl
theorem s_T_init_142 : kPut TT cl6 X mi_T_init 142 6 14 .int := k_put (index := 73) cK_6 d_T_init_142 (by decide) ⟨"Miterhouse$States", Or.inl t_4_158, Or.inl rfl⟩ rfl
theorem s_T_init_147 : kPut TT cl6 X mi_T_init 147 6 15 .int := k_put (index := 76) cK_6 d_T_init_147 (by decide) ⟨"Miterhouse$States", Or.inl t_4_160, Or.inl rfl⟩ rfl
theorem d_T_canDiffer_0 : decode mi_T_canDiffer.2.1 0 = .ok (.iconst (0), 1) := by decide +kernel
theorem d_T_canDiffer_1 : decode mi_T_canDiffer.2.1 1 = .ok (.istore_n 2, 1) := by decide +kernel
theorem d_T_canDiffer_2 : decode mi_T_canDiffer.2.1 2 = .ok (.iload_n 2, 1) := by decide +kernel
theorem d_T_canDiffer_3 : decode mi_T_canDiffer.2.1 3 = .ok (.iconst (1), 1) := by decide +kernel
theorem d_T_canDiffer_4 : decode mi_T_canDiffer.2.1 4 = .ok (.aload_n 0, 1) := by decide +kernel
theorem d_T_canDiffer_5 : decode mi_T_canDiffer.2.1 5 = .ok (.getfield 34, 3) := by decide +kernel
theorem d_T_canDiffer_8 : decode mi_T_canDiffer.2.1 8 = .ok (.ishl, 1) := by decide +kernel
theorem d_T_canDiffer_9 : decode mi_T_canDiffer.2.1 9 = .ok (.if_icmp .ge (35), 3) := by decide +kernel
theorem d_T_canDiffer_12 : decode mi_T_canDiffer.2.1 12 = .ok (.aload_n 0, 1) := by decide +kernel
theorem d_T_canDiffer_13 : decode mi_T_canDiffer.2.1 13 = .ok (.getfield 13, 3) := by decide +kernel
theorem d_T_canDiffer_16 : decode mi_T_canDiffer.2.1 16 = .ok (.iload_n 2, 1) := by decide +kernel
theorem d_T_canDiffer_17 : decode mi_T_canDiffer.2.1 17 = .ok (.invokevirtual 138, 3) := by decide +kernel
theorem d_T_canDiffer_20 : decode mi_T_canDiffer.2.1 20 = .ok (.ifCond .eq (18), 3) := by decide +kernel
theorem d_T_canDiffer_23 : decode mi_T_canDiffer.2.1 23 = .ok (.aload_n 0, 1) := by decide +kernel
theorem d_T_canDiffer_24 : decode mi_T_canDiffer.2.1 24 = .ok (.iload_n 1, 1) := by decide +kernel
theorem d_T_canDiffer_25 : decode mi_T_canDiffer.2.1 25 = .ok (.iload_n 2, 1) := by decide +kernel
theorem d_T_canDiffer_26 : decode mi_T_canDiffer.2.1 26 = .ok (.invokevirtual 142, 3) := by decide +kernel
theorem d_T_canDiffer_29 : decode mi_T_canDiffer.2.1 29 = .ok (.sipush (256), 3) := by decide +kernel
theorem d_T_canDiffer_32 : decode mi_T_canDiffer.2.1 32 = .ok (.iand, 1) := by decide +kernel
theorem d_T_canDiffer_33 : decode mi_T_canDiffer.2.1 33 = .ok (.ifCond .eq (5), 3) := by decide +kernel
theorem d_T_canDiffer_36 : decode mi_T_canDiffer.2.1 36 = .ok (.iconst (1), 1) := by decide +kernel
theorem d_T_canDiffer_37 : decode mi_T_canDiffer.2.1 37 = .ok (.ireturn, 1) := by decide +kernel
theorem d_T_canDiffer_38 : decode mi_T_canDiffer.2.1 38 = .ok (.iinc 2 (1), 3) := by decide +kernel
theorem d_T_canDiffer_41 : decode mi_T_canDiffer.2.1 41 = .ok (.goto (-39), 3) := by decide +kernel
theorem d_T_canDiffer_44 : decode mi_T_canDiffer.2.1 44 = .ok (.iconst (0), 1) := by decide +kernel
theorem d_T_canDiffer_45 : decode mi_T_canDiffer.2.1 45 = .ok (.ireturn, 1) := by decide +kernel
theorem s_T_canDiffer_5 : kGet TT cl6 X mi_T_canDiffer 5 6 2 := k_get (index := 34) cK_6 d_T_canDiffer_5 (by decide) ⟨"Miterhouse$States", Or.inl t_4_146, Or.inl rfl⟩
theorem s_T_canDiffer_13 : kGet TT cl6 X mi_T_canDiffer 13 6 1 := k_get (index := 13) cK_6 d_T_canDiffer_13 (by decide) ⟨"Miterhouse$States", Or.inl t_4_145, Or.inl rfl⟩
theorem s_T_canDiffer_17 : kCall TT cl6 X mi_T_canDiffer 17 3 mi_V_areKeptInputs 2 2 3 := k_virtual (index := 138) d_T_canDiffer_17 cs_V_areKeptInputs rfl rfl t_1_191 t_1_192 t_1_193
theorem s_T_canDiffer_26 : kCall TT cl6 X mi_T_canDiffer 26 3 mi_T_stepFrom 2 3 6 := k_virtual (index := 142) d_T_canDiffer_26 cs_T_stepFrom rfl rfl t_1_195 t_1_197 ts_6
end RW4
