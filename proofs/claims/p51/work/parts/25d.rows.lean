section RW3
variable {X : XT} {L9 : Nat} {xs : Nat → Int32}
theorem d_V_keptWith_0 : decode mi_V_keptWith.2.1 0 = .ok (.iconst (0), 1) := by decide +kernel
theorem d_V_keptWith_1 : decode mi_V_keptWith.2.1 1 = .ok (.istore_n 2, 1) := by decide +kernel
theorem d_V_keptWith_2 : decode mi_V_keptWith.2.1 2 = .ok (.iconst (0), 1) := by decide +kernel
theorem d_V_keptWith_3 : decode mi_V_keptWith.2.1 3 = .ok (.istore_n 3, 1) := by decide +kernel
theorem d_V_keptWith_4 : decode mi_V_keptWith.2.1 4 = .ok (.iload_n 3, 1) := by decide +kernel
theorem d_V_keptWith_5 : decode mi_V_keptWith.2.1 5 = .ok (.aload_n 0, 1) := by decide +kernel
theorem d_V_keptWith_6 : decode mi_V_keptWith.2.1 6 = .ok (.getfield 34, 3) := by decide +kernel
theorem d_V_keptWith_9 : decode mi_V_keptWith.2.1 9 = .ok (.if_icmp .ge (27), 3) := by decide +kernel
theorem d_V_keptWith_12 : decode mi_V_keptWith.2.1 12 = .ok (.iload_n 2, 1) := by decide +kernel
theorem d_V_keptWith_13 : decode mi_V_keptWith.2.1 13 = .ok (.aload_n 0, 1) := by decide +kernel
theorem d_V_keptWith_14 : decode mi_V_keptWith.2.1 14 = .ok (.iload_n 3, 1) := by decide +kernel
theorem d_V_keptWith_15 : decode mi_V_keptWith.2.1 15 = .ok (.invokevirtual 134, 3) := by decide +kernel
theorem d_V_keptWith_18 : decode mi_V_keptWith.2.1 18 = .ok (.aload_n 0, 1) := by decide +kernel
theorem d_V_keptWith_19 : decode mi_V_keptWith.2.1 19 = .ok (.iload_n 1, 1) := by decide +kernel
theorem d_V_keptWith_20 : decode mi_V_keptWith.2.1 20 = .ok (.iload_n 3, 1) := by decide +kernel
theorem d_V_keptWith_21 : decode mi_V_keptWith.2.1 21 = .ok (.invokevirtual 137, 3) := by decide +kernel
theorem d_V_keptWith_24 : decode mi_V_keptWith.2.1 24 = .ok (.land, 1) := by decide +kernel
theorem d_V_keptWith_25 : decode mi_V_keptWith.2.1 25 = .ok (.invokestatic 140, 3) := by decide +kernel
theorem d_V_keptWith_28 : decode mi_V_keptWith.2.1 28 = .ok (.iadd, 1) := by decide +kernel
theorem d_V_keptWith_29 : decode mi_V_keptWith.2.1 29 = .ok (.istore_n 2, 1) := by decide +kernel
theorem d_V_keptWith_30 : decode mi_V_keptWith.2.1 30 = .ok (.iinc 3 (1), 3) := by decide +kernel
theorem d_V_keptWith_33 : decode mi_V_keptWith.2.1 33 = .ok (.goto (-29), 3) := by decide +kernel
theorem d_V_keptWith_36 : decode mi_V_keptWith.2.1 36 = .ok (.iload_n 2, 1) := by decide +kernel
theorem d_V_keptWith_37 : decode mi_V_keptWith.2.1 37 = .ok (.ireturn, 1) := by decide +kernel
theorem s_V_keptWith_6 : kGet TT cl6 X mi_V_keptWith 6 3 2 := k_get (index := 34) cK_3 d_V_keptWith_6 (by decide) ⟨"Miterhouse$Values", Or.inl t_3_132, Or.inl rfl⟩
theorem s_V_keptWith_15 : kCall TT cl6 X mi_V_keptWith 15 3 mi_V_keptWord 2 2 3 := k_virtual (index := 134) d_V_keptWith_15 cs_V_keptWord rfl rfl t_2_56 t_2_20 t_2_21
theorem s_V_keptWith_21 : kCall TT cl6 X mi_V_keptWith 21 3 mi_V_heldWord 2 3 3 := k_virtual (index := 137) d_V_keptWith_21 cs_V_heldWord rfl rfl t_5_108 t_1_229 t_1_230
theorem s_V_keptWith_25 : kCall TT cl6 X mi_V_keptWith 25 3 mi_L_bitCount 1 1 0 := k_static (index := 140) d_V_keptWith_25 cs_L_bitCount t_5_109 t_2_27
theorem d_V_keptWord_0 : decode mi_V_keptWord.2.1 0 = .ok (.aload_n 0, 1) := by decide +kernel
theorem d_V_keptWord_1 : decode mi_V_keptWord.2.1 1 = .ok (.getfield 56, 3) := by decide +kernel
theorem d_V_keptWord_4 : decode mi_V_keptWord.2.1 4 = .ok (.iload_n 1, 1) := by decide +kernel
theorem d_V_keptWord_5 : decode mi_V_keptWord.2.1 5 = .ok (.invokestatic 119, 3) := by decide +kernel
theorem d_V_keptWord_8 : decode mi_V_keptWord.2.1 8 = .ok (.lreturn, 1) := by decide +kernel
theorem s_V_keptWord_1 : kGet TT cl6 X mi_V_keptWord 1 3 7 := k_get (index := 56) cK_3 d_V_keptWord_1 (by decide) ⟨"Miterhouse$Values", Or.inl t_3_140, Or.inl rfl⟩
theorem s_V_keptWord_5 : kCall TT cl6 X mi_V_keptWord 5 3 mi_M_wordAt 4 2 0 := k_staticN (index := 119) d_V_keptWord_5 cs_M_wordAt rfl t_1_153 t_1_154
theorem d_V_leafWord_0 : decode mi_V_leafWord.2.1 0 = .ok (.iload_n 1, 1) := by decide +kernel
theorem d_V_leafWord_1 : decode mi_V_leafWord.2.1 1 = .ok (.aload_n 0, 1) := by decide +kernel
theorem d_V_leafWord_2 : decode mi_V_leafWord.2.1 2 = .ok (.getfield 34, 3) := by decide +kernel
theorem d_V_leafWord_5 : decode mi_V_leafWord.2.1 5 = .ok (.imul, 1) := by decide +kernel
theorem d_V_leafWord_6 : decode mi_V_leafWord.2.1 6 = .ok (.iload 4, 2) := by decide +kernel
theorem d_V_leafWord_8 : decode mi_V_leafWord.2.1 8 = .ok (.iadd, 1) := by decide +kernel
theorem d_V_leafWord_9 : decode mi_V_leafWord.2.1 9 = .ok (.istore 5, 2) := by decide +kernel
theorem d_V_leafWord_11 : decode mi_V_leafWord.2.1 11 = .ok (.iload_n 2, 1) := by decide +kernel
theorem d_V_leafWord_12 : decode mi_V_leafWord.2.1 12 = .ok (.aload_n 0, 1) := by decide +kernel
theorem d_V_leafWord_13 : decode mi_V_leafWord.2.1 13 = .ok (.getfield 34, 3) := by decide +kernel
theorem d_V_leafWord_16 : decode mi_V_leafWord.2.1 16 = .ok (.imul, 1) := by decide +kernel
theorem d_V_leafWord_17 : decode mi_V_leafWord.2.1 17 = .ok (.iload 4, 2) := by decide +kernel
theorem d_V_leafWord_19 : decode mi_V_leafWord.2.1 19 = .ok (.iadd, 1) := by decide +kernel
theorem d_V_leafWord_20 : decode mi_V_leafWord.2.1 20 = .ok (.istore 6, 2) := by decide +kernel
theorem d_V_leafWord_22 : decode mi_V_leafWord.2.1 22 = .ok (.iload_n 3, 1) := by decide +kernel
theorem d_V_leafWord_23 : decode mi_V_leafWord.2.1 23 = .ok (.ifCond .eq (15), 3) := by decide +kernel
theorem d_V_leafWord_26 : decode mi_V_leafWord.2.1 26 = .ok (.aload_n 0, 1) := by decide +kernel
theorem d_V_leafWord_27 : decode mi_V_leafWord.2.1 27 = .ok (.getfield 50, 3) := by decide +kernel
theorem d_V_leafWord_30 : decode mi_V_leafWord.2.1 30 = .ok (.iload 6, 2) := by decide +kernel
theorem d_V_leafWord_32 : decode mi_V_leafWord.2.1 32 = .ok (.invokestatic 119, 3) := by decide +kernel
theorem d_V_leafWord_35 : decode mi_V_leafWord.2.1 35 = .ok (.goto (12), 3) := by decide +kernel
theorem d_V_leafWord_38 : decode mi_V_leafWord.2.1 38 = .ok (.aload_n 0, 1) := by decide +kernel
theorem d_V_leafWord_39 : decode mi_V_leafWord.2.1 39 = .ok (.getfield 53, 3) := by decide +kernel
theorem d_V_leafWord_42 : decode mi_V_leafWord.2.1 42 = .ok (.iload 6, 2) := by decide +kernel
theorem d_V_leafWord_44 : decode mi_V_leafWord.2.1 44 = .ok (.invokestatic 119, 3) := by decide +kernel
theorem d_V_leafWord_47 : decode mi_V_leafWord.2.1 47 = .ok (.lstore 7, 2) := by decide +kernel
theorem d_V_leafWord_49 : decode mi_V_leafWord.2.1 49 = .ok (.iload_n 3, 1) := by decide +kernel
theorem d_V_leafWord_50 : decode mi_V_leafWord.2.1 50 = .ok (.ifCond .eq (15), 3) := by decide +kernel
theorem d_V_leafWord_53 : decode mi_V_leafWord.2.1 53 = .ok (.aload_n 0, 1) := by decide +kernel
theorem d_V_leafWord_54 : decode mi_V_leafWord.2.1 54 = .ok (.getfield 53, 3) := by decide +kernel
theorem d_V_leafWord_57 : decode mi_V_leafWord.2.1 57 = .ok (.iload 6, 2) := by decide +kernel
theorem d_V_leafWord_59 : decode mi_V_leafWord.2.1 59 = .ok (.invokestatic 119, 3) := by decide +kernel
theorem d_V_leafWord_62 : decode mi_V_leafWord.2.1 62 = .ok (.goto (12), 3) := by decide +kernel
theorem d_V_leafWord_65 : decode mi_V_leafWord.2.1 65 = .ok (.aload_n 0, 1) := by decide +kernel
theorem d_V_leafWord_66 : decode mi_V_leafWord.2.1 66 = .ok (.getfield 50, 3) := by decide +kernel
theorem d_V_leafWord_69 : decode mi_V_leafWord.2.1 69 = .ok (.iload 6, 2) := by decide +kernel
theorem d_V_leafWord_71 : decode mi_V_leafWord.2.1 71 = .ok (.invokestatic 119, 3) := by decide +kernel
theorem d_V_leafWord_74 : decode mi_V_leafWord.2.1 74 = .ok (.lstore 9, 2) := by decide +kernel
theorem d_V_leafWord_76 : decode mi_V_leafWord.2.1 76 = .ok (.aload_n 0, 1) := by decide +kernel
theorem d_V_leafWord_77 : decode mi_V_leafWord.2.1 77 = .ok (.getfield 53, 3) := by decide +kernel
theorem d_V_leafWord_80 : decode mi_V_leafWord.2.1 80 = .ok (.iload 5, 2) := by decide +kernel
theorem d_V_leafWord_82 : decode mi_V_leafWord.2.1 82 = .ok (.invokestatic 119, 3) := by decide +kernel
theorem d_V_leafWord_85 : decode mi_V_leafWord.2.1 85 = .ok (.lload 7, 2) := by decide +kernel
theorem d_V_leafWord_87 : decode mi_V_leafWord.2.1 87 = .ok (.land, 1) := by decide +kernel
theorem d_V_leafWord_88 : decode mi_V_leafWord.2.1 88 = .ok (.aload_n 0, 1) := by decide +kernel
theorem d_V_leafWord_89 : decode mi_V_leafWord.2.1 89 = .ok (.getfield 50, 3) := by decide +kernel
theorem d_V_leafWord_92 : decode mi_V_leafWord.2.1 92 = .ok (.iload 5, 2) := by decide +kernel
theorem d_V_leafWord_94 : decode mi_V_leafWord.2.1 94 = .ok (.invokestatic 119, 3) := by decide +kernel
theorem d_V_leafWord_97 : decode mi_V_leafWord.2.1 97 = .ok (.lload 9, 2) := by decide +kernel
theorem d_V_leafWord_99 : decode mi_V_leafWord.2.1 99 = .ok (.land, 1) := by decide +kernel
theorem d_V_leafWord_100 : decode mi_V_leafWord.2.1 100 = .ok (.lor, 1) := by decide +kernel
theorem d_V_leafWord_101 : decode mi_V_leafWord.2.1 101 = .ok (.aload_n 0, 1) := by decide +kernel
theorem d_V_leafWord_102 : decode mi_V_leafWord.2.1 102 = .ok (.getfield 59, 3) := by decide +kernel
theorem d_V_leafWord_105 : decode mi_V_leafWord.2.1 105 = .ok (.iload 4, 2) := by decide +kernel
theorem d_V_leafWord_107 : decode mi_V_leafWord.2.1 107 = .ok (.invokestatic 119, 3) := by decide +kernel
theorem d_V_leafWord_110 : decode mi_V_leafWord.2.1 110 = .ok (.lor, 1) := by decide +kernel
theorem d_V_leafWord_111 : decode mi_V_leafWord.2.1 111 = .ok (.lreturn, 1) := by decide +kernel
theorem s_V_leafWord_2 : kGet TT cl6 X mi_V_leafWord 2 3 2 := k_get (index := 34) cK_3 d_V_leafWord_2 (by decide) ⟨"Miterhouse$Values", Or.inl t_3_132, Or.inl rfl⟩
theorem s_V_leafWord_13 : kGet TT cl6 X mi_V_leafWord 13 3 2 := k_get (index := 34) cK_3 d_V_leafWord_13 (by decide) ⟨"Miterhouse$Values", Or.inl t_3_132, Or.inl rfl⟩
theorem s_V_leafWord_27 : kGet TT cl6 X mi_V_leafWord 27 3 5 := k_get (index := 50) cK_3 d_V_leafWord_27 (by decide) ⟨"Miterhouse$Values", Or.inl t_3_138, Or.inl rfl⟩
theorem s_V_leafWord_32 : kCall TT cl6 X mi_V_leafWord 32 3 mi_M_wordAt 4 2 0 := k_staticN (index := 119) d_V_leafWord_32 cs_M_wordAt rfl t_1_153 t_1_154
theorem s_V_leafWord_39 : kGet TT cl6 X mi_V_leafWord 39 3 6 := k_get (index := 53) cK_3 d_V_leafWord_39 (by decide) ⟨"Miterhouse$Values", Or.inl t_3_139, Or.inl rfl⟩
theorem s_V_leafWord_44 : kCall TT cl6 X mi_V_leafWord 44 3 mi_M_wordAt 4 2 0 := k_staticN (index := 119) d_V_leafWord_44 cs_M_wordAt rfl t_1_153 t_1_154
theorem s_V_leafWord_54 : kGet TT cl6 X mi_V_leafWord 54 3 6 := k_get (index := 53) cK_3 d_V_leafWord_54 (by decide) ⟨"Miterhouse$Values", Or.inl t_3_139, Or.inl rfl⟩
theorem s_V_leafWord_59 : kCall TT cl6 X mi_V_leafWord 59 3 mi_M_wordAt 4 2 0 := k_staticN (index := 119) d_V_leafWord_59 cs_M_wordAt rfl t_1_153 t_1_154
theorem s_V_leafWord_66 : kGet TT cl6 X mi_V_leafWord 66 3 5 := k_get (index := 50) cK_3 d_V_leafWord_66 (by decide) ⟨"Miterhouse$Values", Or.inl t_3_138, Or.inl rfl⟩
theorem s_V_leafWord_71 : kCall TT cl6 X mi_V_leafWord 71 3 mi_M_wordAt 4 2 0 := k_staticN (index := 119) d_V_leafWord_71 cs_M_wordAt rfl t_1_153 t_1_154
theorem s_V_leafWord_77 : kGet TT cl6 X mi_V_leafWord 77 3 6 := k_get (index := 53) cK_3 d_V_leafWord_77 (by decide) ⟨"Miterhouse$Values", Or.inl t_3_139, Or.inl rfl⟩
theorem s_V_leafWord_82 : kCall TT cl6 X mi_V_leafWord 82 3 mi_M_wordAt 4 2 0 := k_staticN (index := 119) d_V_leafWord_82 cs_M_wordAt rfl t_1_153 t_1_154
theorem s_V_leafWord_89 : kGet TT cl6 X mi_V_leafWord 89 3 5 := k_get (index := 50) cK_3 d_V_leafWord_89 (by decide) ⟨"Miterhouse$Values", Or.inl t_3_138, Or.inl rfl⟩
theorem s_V_leafWord_94 : kCall TT cl6 X mi_V_leafWord 94 3 mi_M_wordAt 4 2 0 := k_staticN (index := 119) d_V_leafWord_94 cs_M_wordAt rfl t_1_153 t_1_154
theorem s_V_leafWord_102 : kGet TT cl6 X mi_V_leafWord 102 3 8 := k_get (index := 59) cK_3 d_V_leafWord_102 (by decide) ⟨"Miterhouse$Values", Or.inl t_3_141, Or.inl rfl⟩
theorem s_V_leafWord_107 : kCall TT cl6 X mi_V_leafWord 107 3 mi_M_wordAt 4 2 0 := k_staticN (index := 119) d_V_leafWord_107 cs_M_wordAt rfl t_1_153 t_1_154
theorem d_V_mirrored_0 : decode mi_V_mirrored.2.1 0 = .ok (.iload_n 1, 1) := by decide +kernel
theorem d_V_mirrored_1 : decode mi_V_mirrored.2.1 1 = .ok (.ldc 130, 2) := by decide +kernel
theorem d_V_mirrored_3 : decode mi_V_mirrored.2.1 3 = .ok (.iand, 1) := by decide +kernel
theorem d_V_mirrored_4 : decode mi_V_mirrored.2.1 4 = .ok (.istore_n 2, 1) := by decide +kernel
theorem d_V_mirrored_5 : decode mi_V_mirrored.2.1 5 = .ok (.iload_n 2, 1) := by decide +kernel
theorem d_V_mirrored_6 : decode mi_V_mirrored.2.1 6 = .ok (.sipush (21845), 3) := by decide +kernel
theorem d_V_mirrored_9 : decode mi_V_mirrored.2.1 9 = .ok (.iand, 1) := by decide +kernel
theorem d_V_mirrored_10 : decode mi_V_mirrored.2.1 10 = .ok (.iconst (1), 1) := by decide +kernel
theorem d_V_mirrored_11 : decode mi_V_mirrored.2.1 11 = .ok (.ishl, 1) := by decide +kernel
theorem d_V_mirrored_12 : decode mi_V_mirrored.2.1 12 = .ok (.iload_n 2, 1) := by decide +kernel
theorem d_V_mirrored_13 : decode mi_V_mirrored.2.1 13 = .ok (.iconst (1), 1) := by decide +kernel
theorem d_V_mirrored_14 : decode mi_V_mirrored.2.1 14 = .ok (.iushr, 1) := by decide +kernel
theorem d_V_mirrored_15 : decode mi_V_mirrored.2.1 15 = .ok (.sipush (21845), 3) := by decide +kernel
theorem d_V_mirrored_18 : decode mi_V_mirrored.2.1 18 = .ok (.iand, 1) := by decide +kernel
theorem d_V_mirrored_19 : decode mi_V_mirrored.2.1 19 = .ok (.ior, 1) := by decide +kernel
theorem d_V_mirrored_20 : decode mi_V_mirrored.2.1 20 = .ok (.istore_n 2, 1) := by decide +kernel
theorem d_V_mirrored_21 : decode mi_V_mirrored.2.1 21 = .ok (.iload_n 2, 1) := by decide +kernel
theorem d_V_mirrored_22 : decode mi_V_mirrored.2.1 22 = .ok (.sipush (13107), 3) := by decide +kernel
theorem d_V_mirrored_25 : decode mi_V_mirrored.2.1 25 = .ok (.iand, 1) := by decide +kernel
theorem d_V_mirrored_26 : decode mi_V_mirrored.2.1 26 = .ok (.iconst (2), 1) := by decide +kernel
theorem d_V_mirrored_27 : decode mi_V_mirrored.2.1 27 = .ok (.ishl, 1) := by decide +kernel
theorem d_V_mirrored_28 : decode mi_V_mirrored.2.1 28 = .ok (.iload_n 2, 1) := by decide +kernel
theorem d_V_mirrored_29 : decode mi_V_mirrored.2.1 29 = .ok (.iconst (2), 1) := by decide +kernel
theorem d_V_mirrored_30 : decode mi_V_mirrored.2.1 30 = .ok (.iushr, 1) := by decide +kernel
theorem d_V_mirrored_31 : decode mi_V_mirrored.2.1 31 = .ok (.sipush (13107), 3) := by decide +kernel
theorem d_V_mirrored_34 : decode mi_V_mirrored.2.1 34 = .ok (.iand, 1) := by decide +kernel
theorem d_V_mirrored_35 : decode mi_V_mirrored.2.1 35 = .ok (.ior, 1) := by decide +kernel
theorem d_V_mirrored_36 : decode mi_V_mirrored.2.1 36 = .ok (.istore_n 2, 1) := by decide +kernel
theorem d_V_mirrored_37 : decode mi_V_mirrored.2.1 37 = .ok (.iload_n 2, 1) := by decide +kernel
theorem d_V_mirrored_38 : decode mi_V_mirrored.2.1 38 = .ok (.sipush (3855), 3) := by decide +kernel
theorem d_V_mirrored_41 : decode mi_V_mirrored.2.1 41 = .ok (.iand, 1) := by decide +kernel
theorem d_V_mirrored_42 : decode mi_V_mirrored.2.1 42 = .ok (.iconst (4), 1) := by decide +kernel
theorem d_V_mirrored_43 : decode mi_V_mirrored.2.1 43 = .ok (.ishl, 1) := by decide +kernel
theorem d_V_mirrored_44 : decode mi_V_mirrored.2.1 44 = .ok (.iload_n 2, 1) := by decide +kernel
theorem d_V_mirrored_45 : decode mi_V_mirrored.2.1 45 = .ok (.iconst (4), 1) := by decide +kernel
theorem d_V_mirrored_46 : decode mi_V_mirrored.2.1 46 = .ok (.iushr, 1) := by decide +kernel
theorem d_V_mirrored_47 : decode mi_V_mirrored.2.1 47 = .ok (.sipush (3855), 3) := by decide +kernel
theorem d_V_mirrored_50 : decode mi_V_mirrored.2.1 50 = .ok (.iand, 1) := by decide +kernel
theorem d_V_mirrored_51 : decode mi_V_mirrored.2.1 51 = .ok (.ior, 1) := by decide +kernel
theorem d_V_mirrored_52 : decode mi_V_mirrored.2.1 52 = .ok (.istore_n 2, 1) := by decide +kernel
theorem d_V_mirrored_53 : decode mi_V_mirrored.2.1 53 = .ok (.iload_n 2, 1) := by decide +kernel
theorem d_V_mirrored_54 : decode mi_V_mirrored.2.1 54 = .ok (.sipush (255), 3) := by decide +kernel
theorem d_V_mirrored_57 : decode mi_V_mirrored.2.1 57 = .ok (.iand, 1) := by decide +kernel
theorem d_V_mirrored_58 : decode mi_V_mirrored.2.1 58 = .ok (.bipush (8), 2) := by decide +kernel
theorem d_V_mirrored_60 : decode mi_V_mirrored.2.1 60 = .ok (.ishl, 1) := by decide +kernel
theorem d_V_mirrored_61 : decode mi_V_mirrored.2.1 61 = .ok (.iload_n 2, 1) := by decide +kernel
theorem d_V_mirrored_62 : decode mi_V_mirrored.2.1 62 = .ok (.bipush (8), 2) := by decide +kernel
theorem d_V_mirrored_64 : decode mi_V_mirrored.2.1 64 = .ok (.iushr, 1) := by decide +kernel
theorem d_V_mirrored_65 : decode mi_V_mirrored.2.1 65 = .ok (.sipush (255), 3) := by decide +kernel
theorem d_V_mirrored_68 : decode mi_V_mirrored.2.1 68 = .ok (.iand, 1) := by decide +kernel
theorem d_V_mirrored_69 : decode mi_V_mirrored.2.1 69 = .ok (.ior, 1) := by decide +kernel
theorem d_V_mirrored_70 : decode mi_V_mirrored.2.1 70 = .ok (.istore_n 2, 1) := by decide +kernel
theorem d_V_mirrored_71 : decode mi_V_mirrored.2.1 71 = .ok (.iload_n 2, 1) := by decide +kernel
theorem d_V_mirrored_72 : decode mi_V_mirrored.2.1 72 = .ok (.bipush (16), 2) := by decide +kernel
theorem d_V_mirrored_74 : decode mi_V_mirrored.2.1 74 = .ok (.aload_n 0, 1) := by decide +kernel
theorem d_V_mirrored_75 : decode mi_V_mirrored.2.1 75 = .ok (.getfield 30, 3) := by decide +kernel
theorem d_V_mirrored_78 : decode mi_V_mirrored.2.1 78 = .ok (.isub, 1) := by decide +kernel
theorem d_V_mirrored_79 : decode mi_V_mirrored.2.1 79 = .ok (.iushr, 1) := by decide +kernel
theorem d_V_mirrored_80 : decode mi_V_mirrored.2.1 80 = .ok (.ireturn, 1) := by decide +kernel
theorem s_V_mirrored_1 : kPush TT cl6 X mi_V_mirrored 1 2 (.int (Int32.ofInt (65535))) := k_ldc (index := 130) d_V_mirrored_1 t_1_152
theorem s_V_mirrored_75 : kGet TT cl6 X mi_V_mirrored 75 3 1 := k_get (index := 30) cK_3 d_V_mirrored_75 (by decide) ⟨"Miterhouse$Values", Or.inl t_3_129, Or.inl rfl⟩
theorem d_V_upperTree_0 : decode mi_V_upperTree.2.1 0 = .ok (.lconst 0, 1) := by decide +kernel
theorem d_V_upperTree_1 : decode mi_V_upperTree.2.1 1 = .ok (.lstore_n 3, 1) := by decide +kernel
theorem d_V_upperTree_2 : decode mi_V_upperTree.2.1 2 = .ok (.iload_n 0, 1) := by decide +kernel
theorem d_V_upperTree_3 : decode mi_V_upperTree.2.1 3 = .ok (.iconst (1), 1) := by decide +kernel
theorem d_V_upperTree_4 : decode mi_V_upperTree.2.1 4 = .ok (.iadd, 1) := by decide +kernel
theorem d_V_upperTree_5 : decode mi_V_upperTree.2.1 5 = .ok (.istore 5, 2) := by decide +kernel
theorem d_V_upperTree_7 : decode mi_V_upperTree.2.1 7 = .ok (.iload 5, 2) := by decide +kernel
theorem d_V_upperTree_9 : decode mi_V_upperTree.2.1 9 = .ok (.bipush (6), 2) := by decide +kernel
theorem d_V_upperTree_11 : decode mi_V_upperTree.2.1 11 = .ok (.if_icmp .ge (41), 3) := by decide +kernel
theorem d_V_upperTree_14 : decode mi_V_upperTree.2.1 14 = .ok (.lconst 1, 1) := by decide +kernel
theorem d_V_upperTree_15 : decode mi_V_upperTree.2.1 15 = .ok (.iconst (1), 1) := by decide +kernel
theorem d_V_upperTree_16 : decode mi_V_upperTree.2.1 16 = .ok (.iload 5, 2) := by decide +kernel
theorem d_V_upperTree_18 : decode mi_V_upperTree.2.1 18 = .ok (.ishl, 1) := by decide +kernel
theorem d_V_upperTree_19 : decode mi_V_upperTree.2.1 19 = .ok (.lshl, 1) := by decide +kernel
theorem d_V_upperTree_20 : decode mi_V_upperTree.2.1 20 = .ok (.lconst 1, 1) := by decide +kernel
theorem d_V_upperTree_21 : decode mi_V_upperTree.2.1 21 = .ok (.lsub, 1) := by decide +kernel
theorem d_V_upperTree_22 : decode mi_V_upperTree.2.1 22 = .ok (.iconst (1), 1) := by decide +kernel
theorem d_V_upperTree_23 : decode mi_V_upperTree.2.1 23 = .ok (.iload 5, 2) := by decide +kernel
theorem d_V_upperTree_25 : decode mi_V_upperTree.2.1 25 = .ok (.ishl, 1) := by decide +kernel
theorem d_V_upperTree_26 : decode mi_V_upperTree.2.1 26 = .ok (.lshl, 1) := by decide +kernel
theorem d_V_upperTree_27 : decode mi_V_upperTree.2.1 27 = .ok (.lstore 6, 2) := by decide +kernel
theorem d_V_upperTree_29 : decode mi_V_upperTree.2.1 29 = .ok (.lload_n 3, 1) := by decide +kernel
theorem d_V_upperTree_30 : decode mi_V_upperTree.2.1 30 = .ok (.iload 5, 2) := by decide +kernel
theorem d_V_upperTree_32 : decode mi_V_upperTree.2.1 32 = .ok (.iconst (1), 1) := by decide +kernel
theorem d_V_upperTree_33 : decode mi_V_upperTree.2.1 33 = .ok (.isub, 1) := by decide +kernel
theorem d_V_upperTree_34 : decode mi_V_upperTree.2.1 34 = .ok (.iload_n 0, 1) := by decide +kernel
theorem d_V_upperTree_35 : decode mi_V_upperTree.2.1 35 = .ok (.isub, 1) := by decide +kernel
theorem d_V_upperTree_36 : decode mi_V_upperTree.2.1 36 = .ok (.invokestatic 105, 3) := by decide +kernel
theorem d_V_upperTree_39 : decode mi_V_upperTree.2.1 39 = .ok (.lload_n 1, 1) := by decide +kernel
theorem d_V_upperTree_40 : decode mi_V_upperTree.2.1 40 = .ok (.lxor, 1) := by decide +kernel
theorem d_V_upperTree_41 : decode mi_V_upperTree.2.1 41 = .ok (.lload 6, 2) := by decide +kernel
theorem d_V_upperTree_43 : decode mi_V_upperTree.2.1 43 = .ok (.land, 1) := by decide +kernel
theorem d_V_upperTree_44 : decode mi_V_upperTree.2.1 44 = .ok (.lor, 1) := by decide +kernel
theorem d_V_upperTree_45 : decode mi_V_upperTree.2.1 45 = .ok (.lstore_n 3, 1) := by decide +kernel
theorem d_V_upperTree_46 : decode mi_V_upperTree.2.1 46 = .ok (.iinc 5 (1), 3) := by decide +kernel
theorem d_V_upperTree_49 : decode mi_V_upperTree.2.1 49 = .ok (.goto (-42), 3) := by decide +kernel
theorem d_V_upperTree_52 : decode mi_V_upperTree.2.1 52 = .ok (.lload_n 3, 1) := by decide +kernel
theorem d_V_upperTree_53 : decode mi_V_upperTree.2.1 53 = .ok (.lreturn, 1) := by decide +kernel
theorem s_V_upperTree_36 : kCall TT cl6 X mi_V_upperTree 36 3 mi_M_highHalf 4 1 0 := k_staticN (index := 105) d_V_upperTree_36 cs_M_highHalf rfl t_5_44 t_5_45
theorem d_A_init_0 : decode mi_A_init.2.1 0 = .ok (.aload_n 0, 1) := by decide +kernel
theorem d_A_init_1 : decode mi_A_init.2.1 1 = .ok (.invokespecial 3, 3) := by decide +kernel
theorem d_A_init_4 : decode mi_A_init.2.1 4 = .ok (.aload_n 0, 1) := by decide +kernel
theorem d_A_init_5 : decode mi_A_init.2.1 5 = .ok (.aload_n 1, 1) := by decide +kernel
theorem d_A_init_6 : decode mi_A_init.2.1 6 = .ok (.putfield 9, 3) := by decide +kernel
theorem d_A_init_9 : decode mi_A_init.2.1 9 = .ok (.aload_n 0, 1) := by decide +kernel
theorem d_A_init_10 : decode mi_A_init.2.1 10 = .ok (.sipush (256), 3) := by decide +kernel
theorem d_A_init_13 : decode mi_A_init.2.1 13 = .ok (.newarray .int, 2) := by decide +kernel
theorem d_A_init_15 : decode mi_A_init.2.1 15 = .ok (.putfield 15, 3) := by decide +kernel
theorem d_A_init_18 : decode mi_A_init.2.1 18 = .ok (.aload_n 0, 1) := by decide +kernel
theorem d_A_init_19 : decode mi_A_init.2.1 19 = .ok (.sipush (256), 3) := by decide +kernel
theorem d_A_init_22 : decode mi_A_init.2.1 22 = .ok (.newarray .int, 2) := by decide +kernel
theorem d_A_init_24 : decode mi_A_init.2.1 24 = .ok (.putfield 19, 3) := by decide +kernel
theorem d_A_init_27 : decode mi_A_init.2.1 27 = .ok (.aload_n 0, 1) := by decide +kernel
theorem d_A_init_28 : decode mi_A_init.2.1 28 = .ok (.bipush (80), 2) := by decide +kernel
theorem d_A_init_30 : decode mi_A_init.2.1 30 = .ok (.newarray .int, 2) := by decide +kernel
theorem d_A_init_32 : decode mi_A_init.2.1 32 = .ok (.putfield 22, 3) := by decide +kernel
theorem d_A_init_35 : decode mi_A_init.2.1 35 = .ok (.aload_n 0, 1) := by decide +kernel
theorem d_A_init_36 : decode mi_A_init.2.1 36 = .ok (.iconst (1), 1) := by decide +kernel
theorem d_A_init_37 : decode mi_A_init.2.1 37 = .ok (.aload_n 1, 1) := by decide +kernel
theorem d_A_init_38 : decode mi_A_init.2.1 38 = .ok (.invokevirtual 25, 3) := by decide +kernel
theorem d_A_init_41 : decode mi_A_init.2.1 41 = .ok (.iadd, 1) := by decide +kernel
theorem d_A_init_42 : decode mi_A_init.2.1 42 = .ok (.putfield 31, 3) := by decide +kernel
theorem d_A_init_45 : decode mi_A_init.2.1 45 = .ok (.aload_n 0, 1) := by decide +kernel
theorem d_A_init_46 : decode mi_A_init.2.1 46 = .ok (.aload_n 0, 1) := by decide +kernel
theorem d_A_init_47 : decode mi_A_init.2.1 47 = .ok (.getfield 31, 3) := by decide +kernel
theorem d_A_init_50 : decode mi_A_init.2.1 50 = .ok (.putfield 35, 3) := by decide +kernel
theorem d_A_init_53 : decode mi_A_init.2.1 53 = .ok (.return_, 1) := by decide +kernel
theorem s_A_init_1 : kObj TT cl6 X mi_A_init 1 := k_obj (index := 3) d_A_init_1 t_3_179 t_1_36 t_1_37
theorem s_A_init_6 : kPut TT cl6 X mi_A_init 6 4 0 (.object "Miterhouse$Nets") := k_putF (index := 9) cK_4 d_A_init_6 (by decide) t_3_181 rfl rfl rfl
theorem s_A_init_15 : kPut TT cl6 X mi_A_init 15 4 1 (.array .int) := k_putF (index := 15) cK_4 d_A_init_15 (by decide) t_3_182 rfl rfl rfl
theorem s_A_init_24 : kPut TT cl6 X mi_A_init 24 4 2 (.array .int) := k_putF (index := 19) cK_4 d_A_init_24 (by decide) t_3_183 rfl rfl rfl
theorem s_A_init_32 : kPut TT cl6 X mi_A_init 32 4 3 (.array .int) := k_putF (index := 22) cK_4 d_A_init_32 (by decide) t_3_184 rfl rfl rfl
theorem s_A_init_38 : kCall TT cl6 X mi_A_init 38 3 mi_N_sourceCount 2 1 1 := k_virtual (index := 25) d_A_init_38 cs_N_sourceCount rfl rfl t_3_180 t_3_116 t_3_117
theorem s_A_init_42 : kPut TT cl6 X mi_A_init 42 4 4 .int := k_putF (index := 31) cK_4 d_A_init_42 (by decide) t_3_185 rfl rfl rfl
theorem s_A_init_47 : kGet TT cl6 X mi_A_init 47 4 4 := k_get (index := 31) cK_4 d_A_init_47 (by decide) ⟨"Miterhouse$Ands", Or.inl t_3_185, Or.inl rfl⟩
theorem s_A_init_50 : kPut TT cl6 X mi_A_init 50 4 5 .int := k_put (index := 35) cK_4 d_A_init_50 (by decide) ⟨"Miterhouse$Ands", Or.inl t_3_186, Or.inl rfl⟩ rfl
theorem d_A_andCount_0 : decode mi_A_andCount.2.1 0 = .ok (.aload_n 0, 1) := by decide +kernel
theorem d_A_andCount_1 : decode mi_A_andCount.2.1 1 = .ok (.getfield 35, 3) := by decide +kernel
theorem d_A_andCount_4 : decode mi_A_andCount.2.1 4 = .ok (.aload_n 0, 1) := by decide +kernel
theorem d_A_andCount_5 : decode mi_A_andCount.2.1 5 = .ok (.getfield 31, 3) := by decide +kernel
theorem d_A_andCount_8 : decode mi_A_andCount.2.1 8 = .ok (.isub, 1) := by decide +kernel
theorem d_A_andCount_9 : decode mi_A_andCount.2.1 9 = .ok (.ireturn, 1) := by decide +kernel
theorem s_A_andCount_1 : kGet TT cl6 X mi_A_andCount 1 4 5 := k_get (index := 35) cK_4 d_A_andCount_1 (by decide) ⟨"Miterhouse$Ands", Or.inl t_3_186, Or.inl rfl⟩
theorem s_A_andCount_5 : kGet TT cl6 X mi_A_andCount 5 4 4 := k_get (index := 31) cK_4 d_A_andCount_5 (by decide) ⟨"Miterhouse$Ands", Or.inl t_3_185, Or.inl rfl⟩
theorem d_A_both_0 : decode mi_A_both.2.1 0 = .ok (.iload_n 1, 1) := by decide +kernel
theorem d_A_both_1 : decode mi_A_both.2.1 1 = .ok (.iload_n 2, 1) := by decide +kernel
theorem d_A_both_2 : decode mi_A_both.2.1 2 = .ok (.invokestatic 73, 3) := by decide +kernel
theorem d_A_both_5 : decode mi_A_both.2.1 5 = .ok (.istore_n 3, 1) := by decide +kernel
theorem d_A_both_6 : decode mi_A_both.2.1 6 = .ok (.iload_n 1, 1) := by decide +kernel
theorem d_A_both_7 : decode mi_A_both.2.1 7 = .ok (.iload_n 2, 1) := by decide +kernel
theorem d_A_both_8 : decode mi_A_both.2.1 8 = .ok (.invokestatic 78, 3) := by decide +kernel
theorem d_A_both_11 : decode mi_A_both.2.1 11 = .ok (.istore 4, 2) := by decide +kernel
theorem d_A_both_13 : decode mi_A_both.2.1 13 = .ok (.iconst (0), 1) := by decide +kernel
theorem d_A_both_14 : decode mi_A_both.2.1 14 = .ok (.istore 5, 2) := by decide +kernel
theorem d_A_both_16 : decode mi_A_both.2.1 16 = .ok (.iload 5, 2) := by decide +kernel
theorem d_A_both_18 : decode mi_A_both.2.1 18 = .ok (.sipush (256), 3) := by decide +kernel
theorem d_A_both_21 : decode mi_A_both.2.1 21 = .ok (.if_icmp .ge (203), 3) := by decide +kernel
theorem d_A_both_24 : decode mi_A_both.2.1 24 = .ok (.iload_n 3, 1) := by decide +kernel
theorem d_A_both_25 : decode mi_A_both.2.1 25 = .ok (.ifCond .eq (11), 3) := by decide +kernel
theorem d_A_both_28 : decode mi_A_both.2.1 28 = .ok (.iload_n 3, 1) := by decide +kernel
theorem d_A_both_29 : decode mi_A_both.2.1 29 = .ok (.iconst (1), 1) := by decide +kernel
theorem d_A_both_30 : decode mi_A_both.2.1 30 = .ok (.ixor, 1) := by decide +kernel
theorem d_A_both_31 : decode mi_A_both.2.1 31 = .ok (.iload 4, 2) := by decide +kernel
theorem d_A_both_33 : decode mi_A_both.2.1 33 = .ok (.if_icmp .ne (5), 3) := by decide +kernel
theorem d_A_both_36 : decode mi_A_both.2.1 36 = .ok (.iconst (0), 1) := by decide +kernel
theorem d_A_both_37 : decode mi_A_both.2.1 37 = .ok (.ireturn, 1) := by decide +kernel
theorem d_A_both_38 : decode mi_A_both.2.1 38 = .ok (.iload_n 3, 1) := by decide +kernel
theorem d_A_both_39 : decode mi_A_both.2.1 39 = .ok (.iconst (1), 1) := by decide +kernel
theorem d_A_both_40 : decode mi_A_both.2.1 40 = .ok (.if_icmp .eq (9), 3) := by decide +kernel
theorem d_A_both_43 : decode mi_A_both.2.1 43 = .ok (.iload_n 3, 1) := by decide +kernel
theorem d_A_both_44 : decode mi_A_both.2.1 44 = .ok (.iload 4, 2) := by decide +kernel
theorem d_A_both_46 : decode mi_A_both.2.1 46 = .ok (.if_icmp .ne (6), 3) := by decide +kernel
theorem d_A_both_49 : decode mi_A_both.2.1 49 = .ok (.iload 4, 2) := by decide +kernel
theorem d_A_both_51 : decode mi_A_both.2.1 51 = .ok (.ireturn, 1) := by decide +kernel
theorem d_A_both_52 : decode mi_A_both.2.1 52 = .ok (.aload_n 0, 1) := by decide +kernel
theorem d_A_both_53 : decode mi_A_both.2.1 53 = .ok (.iload 4, 2) := by decide +kernel
theorem d_A_both_55 : decode mi_A_both.2.1 55 = .ok (.iconst (1), 1) := by decide +kernel
theorem d_A_both_56 : decode mi_A_both.2.1 56 = .ok (.ishr, 1) := by decide +kernel
theorem d_A_both_57 : decode mi_A_both.2.1 57 = .ok (.invokevirtual 81, 3) := by decide +kernel
theorem d_A_both_60 : decode mi_A_both.2.1 60 = .ok (.istore 6, 2) := by decide +kernel
theorem d_A_both_62 : decode mi_A_both.2.1 62 = .ok (.aload_n 0, 1) := by decide +kernel
theorem d_A_both_63 : decode mi_A_both.2.1 63 = .ok (.iload 4, 2) := by decide +kernel
theorem d_A_both_65 : decode mi_A_both.2.1 65 = .ok (.iconst (1), 1) := by decide +kernel
theorem d_A_both_66 : decode mi_A_both.2.1 66 = .ok (.ishr, 1) := by decide +kernel
theorem d_A_both_67 : decode mi_A_both.2.1 67 = .ok (.invokevirtual 84, 3) := by decide +kernel
theorem d_A_both_70 : decode mi_A_both.2.1 70 = .ok (.istore 7, 2) := by decide +kernel
theorem d_A_both_72 : decode mi_A_both.2.1 72 = .ok (.aload_n 0, 1) := by decide +kernel
theorem d_A_both_73 : decode mi_A_both.2.1 73 = .ok (.iload 4, 2) := by decide +kernel
theorem d_A_both_75 : decode mi_A_both.2.1 75 = .ok (.iconst (1), 1) := by decide +kernel
theorem d_A_both_76 : decode mi_A_both.2.1 76 = .ok (.ishr, 1) := by decide +kernel
theorem d_A_both_77 : decode mi_A_both.2.1 77 = .ok (.invokevirtual 87, 3) := by decide +kernel
theorem d_A_both_80 : decode mi_A_both.2.1 80 = .ok (.istore 8, 2) := by decide +kernel
theorem d_A_both_82 : decode mi_A_both.2.1 82 = .ok (.iload_n 3, 1) := by decide +kernel
theorem d_A_both_83 : decode mi_A_both.2.1 83 = .ok (.iload 6, 2) := by decide +kernel
theorem d_A_both_85 : decode mi_A_both.2.1 85 = .ok (.if_icmp .eq (9), 3) := by decide +kernel
theorem d_A_both_88 : decode mi_A_both.2.1 88 = .ok (.iload_n 3, 1) := by decide +kernel
theorem d_A_both_89 : decode mi_A_both.2.1 89 = .ok (.iload 7, 2) := by decide +kernel
theorem d_A_both_91 : decode mi_A_both.2.1 91 = .ok (.if_icmp .ne (7), 3) := by decide +kernel
theorem d_A_both_94 : decode mi_A_both.2.1 94 = .ok (.iconst (1), 1) := by decide +kernel
theorem d_A_both_95 : decode mi_A_both.2.1 95 = .ok (.goto (4), 3) := by decide +kernel
theorem d_A_both_98 : decode mi_A_both.2.1 98 = .ok (.iconst (0), 1) := by decide +kernel
theorem d_A_both_99 : decode mi_A_both.2.1 99 = .ok (.istore 9, 2) := by decide +kernel
theorem d_A_both_101 : decode mi_A_both.2.1 101 = .ok (.iload_n 3, 1) := by decide +kernel
theorem d_A_both_102 : decode mi_A_both.2.1 102 = .ok (.iload 6, 2) := by decide +kernel
theorem d_A_both_104 : decode mi_A_both.2.1 104 = .ok (.iconst (1), 1) := by decide +kernel
theorem d_A_both_105 : decode mi_A_both.2.1 105 = .ok (.ixor, 1) := by decide +kernel
theorem d_A_both_106 : decode mi_A_both.2.1 106 = .ok (.if_icmp .eq (11), 3) := by decide +kernel
theorem d_A_both_109 : decode mi_A_both.2.1 109 = .ok (.iload_n 3, 1) := by decide +kernel
theorem d_A_both_110 : decode mi_A_both.2.1 110 = .ok (.iload 7, 2) := by decide +kernel
theorem d_A_both_112 : decode mi_A_both.2.1 112 = .ok (.iconst (1), 1) := by decide +kernel
theorem d_A_both_113 : decode mi_A_both.2.1 113 = .ok (.ixor, 1) := by decide +kernel
theorem d_A_both_114 : decode mi_A_both.2.1 114 = .ok (.if_icmp .ne (7), 3) := by decide +kernel
theorem d_A_both_117 : decode mi_A_both.2.1 117 = .ok (.iconst (1), 1) := by decide +kernel
theorem d_A_both_118 : decode mi_A_both.2.1 118 = .ok (.goto (4), 3) := by decide +kernel
theorem d_A_both_121 : decode mi_A_both.2.1 121 = .ok (.iconst (0), 1) := by decide +kernel
theorem d_A_both_122 : decode mi_A_both.2.1 122 = .ok (.istore 10, 2) := by decide +kernel
theorem d_A_both_124 : decode mi_A_both.2.1 124 = .ok (.iload 4, 2) := by decide +kernel
theorem d_A_both_126 : decode mi_A_both.2.1 126 = .ok (.iconst (1), 1) := by decide +kernel
theorem d_A_both_127 : decode mi_A_both.2.1 127 = .ok (.iand, 1) := by decide +kernel
theorem d_A_both_128 : decode mi_A_both.2.1 128 = .ok (.iconst (1), 1) := by decide +kernel
theorem d_A_both_129 : decode mi_A_both.2.1 129 = .ok (.if_icmp .ne (7), 3) := by decide +kernel
theorem d_A_both_132 : decode mi_A_both.2.1 132 = .ok (.iconst (1), 1) := by decide +kernel
theorem d_A_both_133 : decode mi_A_both.2.1 133 = .ok (.goto (4), 3) := by decide +kernel
theorem d_A_both_136 : decode mi_A_both.2.1 136 = .ok (.iconst (0), 1) := by decide +kernel
theorem d_A_both_137 : decode mi_A_both.2.1 137 = .ok (.istore 11, 2) := by decide +kernel
theorem d_A_both_139 : decode mi_A_both.2.1 139 = .ok (.iload 8, 2) := by decide +kernel
theorem d_A_both_141 : decode mi_A_both.2.1 141 = .ok (.ifCond .eq (13), 3) := by decide +kernel
theorem d_A_both_144 : decode mi_A_both.2.1 144 = .ok (.iload 9, 2) := by decide +kernel
theorem d_A_both_146 : decode mi_A_both.2.1 146 = .ok (.ifCond .ne (16), 3) := by decide +kernel
theorem d_A_both_149 : decode mi_A_both.2.1 149 = .ok (.iload 10, 2) := by decide +kernel
theorem d_A_both_151 : decode mi_A_both.2.1 151 = .ok (.ifCond .ne (11), 3) := by decide +kernel
theorem d_A_both_154 : decode mi_A_both.2.1 154 = .ok (.aload_n 0, 1) := by decide +kernel
theorem d_A_both_155 : decode mi_A_both.2.1 155 = .ok (.iload_n 3, 1) := by decide +kernel
theorem d_A_both_156 : decode mi_A_both.2.1 156 = .ok (.iload 4, 2) := by decide +kernel
theorem d_A_both_158 : decode mi_A_both.2.1 158 = .ok (.invokevirtual 90, 3) := by decide +kernel
theorem d_A_both_161 : decode mi_A_both.2.1 161 = .ok (.ireturn, 1) := by decide +kernel
theorem d_A_both_162 : decode mi_A_both.2.1 162 = .ok (.iload 11, 2) := by decide +kernel
theorem d_A_both_164 : decode mi_A_both.2.1 164 = .ok (.ifCond .ne (15), 3) := by decide +kernel
theorem d_A_both_167 : decode mi_A_both.2.1 167 = .ok (.iload 10, 2) := by decide +kernel
theorem d_A_both_169 : decode mi_A_both.2.1 169 = .ok (.ifCond .eq (7), 3) := by decide +kernel
theorem d_A_both_172 : decode mi_A_both.2.1 172 = .ok (.iconst (0), 1) := by decide +kernel
theorem d_A_both_173 : decode mi_A_both.2.1 173 = .ok (.goto (5), 3) := by decide +kernel
theorem d_A_both_176 : decode mi_A_both.2.1 176 = .ok (.iload 4, 2) := by decide +kernel
theorem d_A_both_178 : decode mi_A_both.2.1 178 = .ok (.ireturn, 1) := by decide +kernel
theorem d_A_both_179 : decode mi_A_both.2.1 179 = .ok (.iload 10, 2) := by decide +kernel
theorem d_A_both_181 : decode mi_A_both.2.1 181 = .ok (.ifCond .eq (5), 3) := by decide +kernel
theorem d_A_both_184 : decode mi_A_both.2.1 184 = .ok (.iload_n 3, 1) := by decide +kernel
theorem d_A_both_185 : decode mi_A_both.2.1 185 = .ok (.ireturn, 1) := by decide +kernel
theorem d_A_both_186 : decode mi_A_both.2.1 186 = .ok (.iload_n 3, 1) := by decide +kernel
theorem d_A_both_187 : decode mi_A_both.2.1 187 = .ok (.iload 6, 2) := by decide +kernel
theorem d_A_both_189 : decode mi_A_both.2.1 189 = .ok (.if_icmp .ne (8), 3) := by decide +kernel
theorem d_A_both_192 : decode mi_A_both.2.1 192 = .ok (.iload 7, 2) := by decide +kernel
theorem d_A_both_194 : decode mi_A_both.2.1 194 = .ok (.goto (5), 3) := by decide +kernel
theorem d_A_both_197 : decode mi_A_both.2.1 197 = .ok (.iload 6, 2) := by decide +kernel
theorem d_A_both_199 : decode mi_A_both.2.1 199 = .ok (.iconst (1), 1) := by decide +kernel
theorem d_A_both_200 : decode mi_A_both.2.1 200 = .ok (.ixor, 1) := by decide +kernel
theorem d_A_both_201 : decode mi_A_both.2.1 201 = .ok (.istore 12, 2) := by decide +kernel
theorem d_A_both_203 : decode mi_A_both.2.1 203 = .ok (.iload_n 3, 1) := by decide +kernel
theorem d_A_both_204 : decode mi_A_both.2.1 204 = .ok (.iload 12, 2) := by decide +kernel
theorem d_A_both_206 : decode mi_A_both.2.1 206 = .ok (.invokestatic 78, 3) := by decide +kernel
theorem d_A_both_209 : decode mi_A_both.2.1 209 = .ok (.istore 4, 2) := by decide +kernel
theorem d_A_both_211 : decode mi_A_both.2.1 211 = .ok (.iload_n 3, 1) := by decide +kernel
theorem d_A_both_212 : decode mi_A_both.2.1 212 = .ok (.iload 12, 2) := by decide +kernel
theorem d_A_both_214 : decode mi_A_both.2.1 214 = .ok (.invokestatic 73, 3) := by decide +kernel
theorem d_A_both_217 : decode mi_A_both.2.1 217 = .ok (.istore_n 3, 1) := by decide +kernel
theorem d_A_both_218 : decode mi_A_both.2.1 218 = .ok (.iinc 5 (1), 3) := by decide +kernel
theorem d_A_both_221 : decode mi_A_both.2.1 221 = .ok (.goto (-205), 3) := by decide +kernel
theorem d_A_both_224 : decode mi_A_both.2.1 224 = .ok (.aload_n 0, 1) := by decide +kernel
theorem d_A_both_225 : decode mi_A_both.2.1 225 = .ok (.iload_n 3, 1) := by decide +kernel
theorem d_A_both_226 : decode mi_A_both.2.1 226 = .ok (.iload 4, 2) := by decide +kernel
theorem d_A_both_228 : decode mi_A_both.2.1 228 = .ok (.invokevirtual 90, 3) := by decide +kernel
theorem d_A_both_231 : decode mi_A_both.2.1 231 = .ok (.ireturn, 1) := by decide +kernel
theorem s_A_both_57 : kCall TT cl6 X mi_A_both 57 3 mi_A_lesserPin 2 2 4 := k_virtual (index := 81) d_A_both_57 cs_A_lesserPin rfl rfl t_5_71 t_1_213 t_1_214
theorem s_A_both_67 : kCall TT cl6 X mi_A_both 67 3 mi_A_greaterPin 2 2 4 := k_virtual (index := 84) d_A_both_67 cs_A_greaterPin rfl rfl t_5_72 t_1_224 t_1_225
theorem s_A_both_77 : kCall TT cl6 X mi_A_both 77 3 mi_A_isAnd 2 2 4 := k_virtual (index := 87) d_A_both_77 cs_A_isAnd rfl rfl t_5_73 t_1_209 t_1_210
theorem s_A_both_158 : kCall TT cl6 X mi_A_both 158 3 mi_A_nodeOf 2 3 4 := k_virtual (index := 90) d_A_both_158 cs_A_nodeOf rfl rfl t_5_74 t_5_76 ts_23
theorem s_A_both_228 : kCall TT cl6 X mi_A_both 228 3 mi_A_nodeOf 2 3 4 := k_virtual (index := 90) d_A_both_228 cs_A_nodeOf rfl rfl t_5_74 t_5_76 ts_23
theorem d_A_fill_0 : decode mi_A_fill.2.1 0 = .ok (.iconst (0), 1) := by decide +kernel
theorem d_A_fill_1 : decode mi_A_fill.2.1 1 = .ok (.istore_n 1, 1) := by decide +kernel
theorem d_A_fill_2 : decode mi_A_fill.2.1 2 = .ok (.iload_n 1, 1) := by decide +kernel
theorem d_A_fill_3 : decode mi_A_fill.2.1 3 = .ok (.aload_n 0, 1) := by decide +kernel
theorem d_A_fill_4 : decode mi_A_fill.2.1 4 = .ok (.getfield 9, 3) := by decide +kernel
theorem d_A_fill_7 : decode mi_A_fill.2.1 7 = .ok (.getfield 38, 3) := by decide +kernel
theorem d_A_fill_10 : decode mi_A_fill.2.1 10 = .ok (.if_icmp .ge (50), 3) := by decide +kernel
theorem d_A_fill_13 : decode mi_A_fill.2.1 13 = .ok (.aload_n 0, 1) := by decide +kernel
theorem d_A_fill_14 : decode mi_A_fill.2.1 14 = .ok (.getfield 9, 3) := by decide +kernel
theorem d_A_fill_17 : decode mi_A_fill.2.1 17 = .ok (.iload_n 1, 1) := by decide +kernel
theorem d_A_fill_18 : decode mi_A_fill.2.1 18 = .ok (.invokevirtual 41, 3) := by decide +kernel
theorem d_A_fill_21 : decode mi_A_fill.2.1 21 = .ok (.ifCond .eq (11), 3) := by decide +kernel
theorem d_A_fill_24 : decode mi_A_fill.2.1 24 = .ok (.aload_n 0, 1) := by decide +kernel
theorem d_A_fill_25 : decode mi_A_fill.2.1 25 = .ok (.iload_n 1, 1) := by decide +kernel
theorem d_A_fill_26 : decode mi_A_fill.2.1 26 = .ok (.invokevirtual 45, 3) := by decide +kernel
theorem d_A_fill_29 : decode mi_A_fill.2.1 29 = .ok (.goto (15), 3) := by decide +kernel
theorem d_A_fill_32 : decode mi_A_fill.2.1 32 = .ok (.iconst (2), 1) := by decide +kernel
theorem d_A_fill_33 : decode mi_A_fill.2.1 33 = .ok (.iconst (1), 1) := by decide +kernel
theorem d_A_fill_34 : decode mi_A_fill.2.1 34 = .ok (.aload_n 0, 1) := by decide +kernel
theorem d_A_fill_35 : decode mi_A_fill.2.1 35 = .ok (.getfield 9, 3) := by decide +kernel
theorem d_A_fill_38 : decode mi_A_fill.2.1 38 = .ok (.iload_n 1, 1) := by decide +kernel
theorem d_A_fill_39 : decode mi_A_fill.2.1 39 = .ok (.invokevirtual 49, 3) := by decide +kernel
theorem d_A_fill_42 : decode mi_A_fill.2.1 42 = .ok (.iadd, 1) := by decide +kernel
theorem d_A_fill_43 : decode mi_A_fill.2.1 43 = .ok (.imul, 1) := by decide +kernel
theorem d_A_fill_44 : decode mi_A_fill.2.1 44 = .ok (.istore_n 2, 1) := by decide +kernel
theorem d_A_fill_45 : decode mi_A_fill.2.1 45 = .ok (.aload_n 0, 1) := by decide +kernel
theorem d_A_fill_46 : decode mi_A_fill.2.1 46 = .ok (.getfield 22, 3) := by decide +kernel
theorem d_A_fill_49 : decode mi_A_fill.2.1 49 = .ok (.iload_n 1, 1) := by decide +kernel
theorem d_A_fill_50 : decode mi_A_fill.2.1 50 = .ok (.iload_n 2, 1) := by decide +kernel
theorem d_A_fill_51 : decode mi_A_fill.2.1 51 = .ok (.invokestatic 52, 3) := by decide +kernel
theorem d_A_fill_54 : decode mi_A_fill.2.1 54 = .ok (.iinc 1 (1), 3) := by decide +kernel
theorem d_A_fill_57 : decode mi_A_fill.2.1 57 = .ok (.goto (-55), 3) := by decide +kernel
theorem d_A_fill_60 : decode mi_A_fill.2.1 60 = .ok (.return_, 1) := by decide +kernel
theorem s_A_fill_4 : kGet TT cl6 X mi_A_fill 4 4 0 := k_get (index := 9) cK_4 d_A_fill_4 (by decide) ⟨"Miterhouse$Ands", Or.inl t_3_181, Or.inl rfl⟩
theorem s_A_fill_7 : kGet TT cl6 X mi_A_fill 7 1 11 := k_get (index := 38) cK_1 d_A_fill_7 (by decide) ⟨"Miterhouse$Nets", Or.inl t_1_57, Or.inl rfl⟩
theorem s_A_fill_14 : kGet TT cl6 X mi_A_fill 14 4 0 := k_get (index := 9) cK_4 d_A_fill_14 (by decide) ⟨"Miterhouse$Ands", Or.inl t_3_181, Or.inl rfl⟩
theorem s_A_fill_18 : kCall TT cl6 X mi_A_fill 18 3 mi_N_isGate 2 2 1 := k_virtual (index := 41) d_A_fill_18 cs_N_isGate rfl rfl t_5_56 t_5_8 t_5_9
theorem s_A_fill_26 : kCall TT cl6 X mi_A_fill 26 3 mi_A_gateLiteral 2 2 4 := k_virtual (index := 45) d_A_fill_26 cs_A_gateLiteral rfl rfl t_5_57 t_5_59 ts_21
theorem s_A_fill_35 : kGet TT cl6 X mi_A_fill 35 4 0 := k_get (index := 9) cK_4 d_A_fill_35 (by decide) ⟨"Miterhouse$Ands", Or.inl t_3_181, Or.inl rfl⟩
theorem s_A_fill_39 : kCall TT cl6 X mi_A_fill 39 3 mi_N_sourceAtLine 2 2 1 := k_virtual (index := 49) d_A_fill_39 cs_N_sourceAtLine rfl rfl t_5_79 t_5_32 t_5_33
theorem s_A_fill_46 : kGet TT cl6 X mi_A_fill 46 4 3 := k_get (index := 22) cK_4 d_A_fill_46 (by decide) ⟨"Miterhouse$Ands", Or.inl t_3_184, Or.inl rfl⟩
theorem s_A_fill_51 : kCall TT cl6 X mi_A_fill 51 3 mi_M_putNumber 4 3 0 := k_staticN (index := 52) d_A_fill_51 cs_M_putNumber rfl t_5_78 t_1_184
theorem d_A_gateLiteral_0 : decode mi_A_gateLiteral.2.1 0 = .ok (.aload_n 0, 1) := by decide +kernel
theorem d_A_gateLiteral_1 : decode mi_A_gateLiteral.2.1 1 = .ok (.aload_n 0, 1) := by decide +kernel
theorem d_A_gateLiteral_2 : decode mi_A_gateLiteral.2.1 2 = .ok (.getfield 9, 3) := by decide +kernel
theorem d_A_gateLiteral_5 : decode mi_A_gateLiteral.2.1 5 = .ok (.iload_n 1, 1) := by decide +kernel
theorem d_A_gateLiteral_6 : decode mi_A_gateLiteral.2.1 6 = .ok (.invokevirtual 56, 3) := by decide +kernel
theorem d_A_gateLiteral_9 : decode mi_A_gateLiteral.2.1 9 = .ok (.invokevirtual 59, 3) := by decide +kernel
theorem d_A_gateLiteral_12 : decode mi_A_gateLiteral.2.1 12 = .ok (.istore_n 2, 1) := by decide +kernel
theorem d_A_gateLiteral_13 : decode mi_A_gateLiteral.2.1 13 = .ok (.aload_n 0, 1) := by decide +kernel
theorem d_A_gateLiteral_14 : decode mi_A_gateLiteral.2.1 14 = .ok (.aload_n 0, 1) := by decide +kernel
theorem d_A_gateLiteral_15 : decode mi_A_gateLiteral.2.1 15 = .ok (.getfield 9, 3) := by decide +kernel
theorem d_A_gateLiteral_18 : decode mi_A_gateLiteral.2.1 18 = .ok (.iload_n 1, 1) := by decide +kernel
theorem d_A_gateLiteral_19 : decode mi_A_gateLiteral.2.1 19 = .ok (.invokevirtual 62, 3) := by decide +kernel
theorem d_A_gateLiteral_22 : decode mi_A_gateLiteral.2.1 22 = .ok (.invokevirtual 59, 3) := by decide +kernel
theorem d_A_gateLiteral_25 : decode mi_A_gateLiteral.2.1 25 = .ok (.istore_n 3, 1) := by decide +kernel
theorem d_A_gateLiteral_26 : decode mi_A_gateLiteral.2.1 26 = .ok (.aload_n 0, 1) := by decide +kernel
theorem d_A_gateLiteral_27 : decode mi_A_gateLiteral.2.1 27 = .ok (.getfield 9, 3) := by decide +kernel
theorem d_A_gateLiteral_30 : decode mi_A_gateLiteral.2.1 30 = .ok (.iload_n 1, 1) := by decide +kernel
theorem d_A_gateLiteral_31 : decode mi_A_gateLiteral.2.1 31 = .ok (.invokevirtual 65, 3) := by decide +kernel
theorem d_A_gateLiteral_34 : decode mi_A_gateLiteral.2.1 34 = .ok (.lookupswitch (135) #[((97), (58)), ((110), (65)), ((111), (74)), ((114), (87)), ((118), (131)), ((120), (98))], 58) := by decide +kernel
theorem d_A_gateLiteral_92 : decode mi_A_gateLiteral.2.1 92 = .ok (.aload_n 0, 1) := by decide +kernel
theorem d_A_gateLiteral_93 : decode mi_A_gateLiteral.2.1 93 = .ok (.iload_n 2, 1) := by decide +kernel
theorem d_A_gateLiteral_94 : decode mi_A_gateLiteral.2.1 94 = .ok (.iload_n 3, 1) := by decide +kernel
theorem d_A_gateLiteral_95 : decode mi_A_gateLiteral.2.1 95 = .ok (.invokevirtual 69, 3) := by decide +kernel
theorem d_A_gateLiteral_98 : decode mi_A_gateLiteral.2.1 98 = .ok (.ireturn, 1) := by decide +kernel
theorem d_A_gateLiteral_99 : decode mi_A_gateLiteral.2.1 99 = .ok (.aload_n 0, 1) := by decide +kernel
theorem d_A_gateLiteral_100 : decode mi_A_gateLiteral.2.1 100 = .ok (.iload_n 2, 1) := by decide +kernel
theorem d_A_gateLiteral_101 : decode mi_A_gateLiteral.2.1 101 = .ok (.iload_n 3, 1) := by decide +kernel
theorem d_A_gateLiteral_102 : decode mi_A_gateLiteral.2.1 102 = .ok (.invokevirtual 69, 3) := by decide +kernel
theorem d_A_gateLiteral_105 : decode mi_A_gateLiteral.2.1 105 = .ok (.iconst (1), 1) := by decide +kernel
theorem d_A_gateLiteral_106 : decode mi_A_gateLiteral.2.1 106 = .ok (.ixor, 1) := by decide +kernel
theorem d_A_gateLiteral_107 : decode mi_A_gateLiteral.2.1 107 = .ok (.ireturn, 1) := by decide +kernel
theorem d_A_gateLiteral_108 : decode mi_A_gateLiteral.2.1 108 = .ok (.aload_n 0, 1) := by decide +kernel
theorem d_A_gateLiteral_109 : decode mi_A_gateLiteral.2.1 109 = .ok (.iload_n 2, 1) := by decide +kernel
theorem d_A_gateLiteral_110 : decode mi_A_gateLiteral.2.1 110 = .ok (.iconst (1), 1) := by decide +kernel
theorem d_A_gateLiteral_111 : decode mi_A_gateLiteral.2.1 111 = .ok (.ixor, 1) := by decide +kernel
theorem d_A_gateLiteral_112 : decode mi_A_gateLiteral.2.1 112 = .ok (.iload_n 3, 1) := by decide +kernel
theorem d_A_gateLiteral_113 : decode mi_A_gateLiteral.2.1 113 = .ok (.iconst (1), 1) := by decide +kernel
theorem d_A_gateLiteral_114 : decode mi_A_gateLiteral.2.1 114 = .ok (.ixor, 1) := by decide +kernel
theorem d_A_gateLiteral_115 : decode mi_A_gateLiteral.2.1 115 = .ok (.invokevirtual 69, 3) := by decide +kernel
theorem d_A_gateLiteral_118 : decode mi_A_gateLiteral.2.1 118 = .ok (.iconst (1), 1) := by decide +kernel
theorem d_A_gateLiteral_119 : decode mi_A_gateLiteral.2.1 119 = .ok (.ixor, 1) := by decide +kernel
theorem d_A_gateLiteral_120 : decode mi_A_gateLiteral.2.1 120 = .ok (.ireturn, 1) := by decide +kernel
theorem d_A_gateLiteral_121 : decode mi_A_gateLiteral.2.1 121 = .ok (.aload_n 0, 1) := by decide +kernel
theorem d_A_gateLiteral_122 : decode mi_A_gateLiteral.2.1 122 = .ok (.iload_n 2, 1) := by decide +kernel
theorem d_A_gateLiteral_123 : decode mi_A_gateLiteral.2.1 123 = .ok (.iconst (1), 1) := by decide +kernel
theorem d_A_gateLiteral_124 : decode mi_A_gateLiteral.2.1 124 = .ok (.ixor, 1) := by decide +kernel
theorem d_A_gateLiteral_125 : decode mi_A_gateLiteral.2.1 125 = .ok (.iload_n 3, 1) := by decide +kernel
theorem d_A_gateLiteral_126 : decode mi_A_gateLiteral.2.1 126 = .ok (.iconst (1), 1) := by decide +kernel
theorem d_A_gateLiteral_127 : decode mi_A_gateLiteral.2.1 127 = .ok (.ixor, 1) := by decide +kernel
theorem d_A_gateLiteral_128 : decode mi_A_gateLiteral.2.1 128 = .ok (.invokevirtual 69, 3) := by decide +kernel
theorem d_A_gateLiteral_131 : decode mi_A_gateLiteral.2.1 131 = .ok (.ireturn, 1) := by decide +kernel
theorem d_A_gateLiteral_132 : decode mi_A_gateLiteral.2.1 132 = .ok (.aload_n 0, 1) := by decide +kernel
theorem d_A_gateLiteral_133 : decode mi_A_gateLiteral.2.1 133 = .ok (.iload_n 2, 1) := by decide +kernel
theorem d_A_gateLiteral_134 : decode mi_A_gateLiteral.2.1 134 = .ok (.iload_n 3, 1) := by decide +kernel
theorem d_A_gateLiteral_135 : decode mi_A_gateLiteral.2.1 135 = .ok (.invokevirtual 69, 3) := by decide +kernel
theorem d_A_gateLiteral_138 : decode mi_A_gateLiteral.2.1 138 = .ok (.istore 4, 2) := by decide +kernel
theorem d_A_gateLiteral_140 : decode mi_A_gateLiteral.2.1 140 = .ok (.aload_n 0, 1) := by decide +kernel
theorem d_A_gateLiteral_141 : decode mi_A_gateLiteral.2.1 141 = .ok (.iload_n 2, 1) := by decide +kernel
theorem d_A_gateLiteral_142 : decode mi_A_gateLiteral.2.1 142 = .ok (.iconst (1), 1) := by decide +kernel
theorem d_A_gateLiteral_143 : decode mi_A_gateLiteral.2.1 143 = .ok (.ixor, 1) := by decide +kernel
theorem d_A_gateLiteral_144 : decode mi_A_gateLiteral.2.1 144 = .ok (.iload_n 3, 1) := by decide +kernel
theorem d_A_gateLiteral_145 : decode mi_A_gateLiteral.2.1 145 = .ok (.iconst (1), 1) := by decide +kernel
theorem d_A_gateLiteral_146 : decode mi_A_gateLiteral.2.1 146 = .ok (.ixor, 1) := by decide +kernel
theorem d_A_gateLiteral_147 : decode mi_A_gateLiteral.2.1 147 = .ok (.invokevirtual 69, 3) := by decide +kernel
theorem d_A_gateLiteral_150 : decode mi_A_gateLiteral.2.1 150 = .ok (.istore 5, 2) := by decide +kernel
theorem d_A_gateLiteral_152 : decode mi_A_gateLiteral.2.1 152 = .ok (.aload_n 0, 1) := by decide +kernel
theorem d_A_gateLiteral_153 : decode mi_A_gateLiteral.2.1 153 = .ok (.iload 4, 2) := by decide +kernel
theorem d_A_gateLiteral_155 : decode mi_A_gateLiteral.2.1 155 = .ok (.iconst (1), 1) := by decide +kernel
theorem d_A_gateLiteral_156 : decode mi_A_gateLiteral.2.1 156 = .ok (.ixor, 1) := by decide +kernel
theorem d_A_gateLiteral_157 : decode mi_A_gateLiteral.2.1 157 = .ok (.iload 5, 2) := by decide +kernel
theorem d_A_gateLiteral_159 : decode mi_A_gateLiteral.2.1 159 = .ok (.iconst (1), 1) := by decide +kernel
theorem d_A_gateLiteral_160 : decode mi_A_gateLiteral.2.1 160 = .ok (.ixor, 1) := by decide +kernel
theorem d_A_gateLiteral_161 : decode mi_A_gateLiteral.2.1 161 = .ok (.invokevirtual 69, 3) := by decide +kernel
theorem d_A_gateLiteral_164 : decode mi_A_gateLiteral.2.1 164 = .ok (.ireturn, 1) := by decide +kernel
theorem d_A_gateLiteral_165 : decode mi_A_gateLiteral.2.1 165 = .ok (.iload_n 2, 1) := by decide +kernel
theorem d_A_gateLiteral_166 : decode mi_A_gateLiteral.2.1 166 = .ok (.iconst (1), 1) := by decide +kernel
theorem d_A_gateLiteral_167 : decode mi_A_gateLiteral.2.1 167 = .ok (.ixor, 1) := by decide +kernel
theorem d_A_gateLiteral_168 : decode mi_A_gateLiteral.2.1 168 = .ok (.ireturn, 1) := by decide +kernel
theorem d_A_gateLiteral_169 : decode mi_A_gateLiteral.2.1 169 = .ok (.iload_n 2, 1) := by decide +kernel
theorem d_A_gateLiteral_170 : decode mi_A_gateLiteral.2.1 170 = .ok (.ireturn, 1) := by decide +kernel
theorem s_A_gateLiteral_2 : kGet TT cl6 X mi_A_gateLiteral 2 4 0 := k_get (index := 9) cK_4 d_A_gateLiteral_2 (by decide) ⟨"Miterhouse$Ands", Or.inl t_3_181, Or.inl rfl⟩
theorem s_A_gateLiteral_6 : kCall TT cl6 X mi_A_gateLiteral 6 3 mi_N_oneOfPins 2 2 1 := k_virtual (index := 56) d_A_gateLiteral_6 cs_N_oneOfPins rfl rfl t_5_61 t_5_17 t_5_18
theorem s_A_gateLiteral_9 : kCall TT cl6 X mi_A_gateLiteral 9 3 mi_A_literalOf 2 2 4 := k_virtual (index := 59) d_A_gateLiteral_9 cs_A_literalOf rfl rfl t_5_62 t_1_236 t_1_237
theorem s_A_gateLiteral_15 : kGet TT cl6 X mi_A_gateLiteral 15 4 0 := k_get (index := 9) cK_4 d_A_gateLiteral_15 (by decide) ⟨"Miterhouse$Ands", Or.inl t_3_181, Or.inl rfl⟩
theorem s_A_gateLiteral_19 : kCall TT cl6 X mi_A_gateLiteral 19 3 mi_N_twoOfPins 2 2 1 := k_virtual (index := 62) d_A_gateLiteral_19 cs_N_twoOfPins rfl rfl t_5_63 t_5_21 t_5_22
theorem s_A_gateLiteral_22 : kCall TT cl6 X mi_A_gateLiteral 22 3 mi_A_literalOf 2 2 4 := k_virtual (index := 59) d_A_gateLiteral_22 cs_A_literalOf rfl rfl t_5_62 t_1_236 t_1_237
theorem s_A_gateLiteral_27 : kGet TT cl6 X mi_A_gateLiteral 27 4 0 := k_get (index := 9) cK_4 d_A_gateLiteral_27 (by decide) ⟨"Miterhouse$Ands", Or.inl t_3_181, Or.inl rfl⟩
theorem s_A_gateLiteral_31 : kCall TT cl6 X mi_A_gateLiteral 31 3 mi_N_kindOf 2 2 1 := k_virtual (index := 65) d_A_gateLiteral_31 cs_N_kindOf rfl rfl t_5_64 t_2_179 t_2_180
theorem s_A_gateLiteral_95 : kCall TT cl6 X mi_A_gateLiteral 95 3 mi_A_both 2 3 4 := k_virtual (index := 69) d_A_gateLiteral_95 cs_A_both rfl rfl t_5_65 t_5_67 ts_22
theorem s_A_gateLiteral_102 : kCall TT cl6 X mi_A_gateLiteral 102 3 mi_A_both 2 3 4 := k_virtual (index := 69) d_A_gateLiteral_102 cs_A_both rfl rfl t_5_65 t_5_67 ts_22
theorem s_A_gateLiteral_115 : kCall TT cl6 X mi_A_gateLiteral 115 3 mi_A_both 2 3 4 := k_virtual (index := 69) d_A_gateLiteral_115 cs_A_both rfl rfl t_5_65 t_5_67 ts_22
theorem s_A_gateLiteral_128 : kCall TT cl6 X mi_A_gateLiteral 128 3 mi_A_both 2 3 4 := k_virtual (index := 69) d_A_gateLiteral_128 cs_A_both rfl rfl t_5_65 t_5_67 ts_22
theorem s_A_gateLiteral_135 : kCall TT cl6 X mi_A_gateLiteral 135 3 mi_A_both 2 3 4 := k_virtual (index := 69) d_A_gateLiteral_135 cs_A_both rfl rfl t_5_65 t_5_67 ts_22
theorem s_A_gateLiteral_147 : kCall TT cl6 X mi_A_gateLiteral 147 3 mi_A_both 2 3 4 := k_virtual (index := 69) d_A_gateLiteral_147 cs_A_both rfl rfl t_5_65 t_5_67 ts_22
theorem s_A_gateLiteral_161 : kCall TT cl6 X mi_A_gateLiteral 161 3 mi_A_both 2 3 4 := k_virtual (index := 69) d_A_gateLiteral_161 cs_A_both rfl rfl t_5_65 t_5_67 ts_22
theorem d_A_greaterPin_0 : decode mi_A_greaterPin.2.1 0 = .ok (.aload_n 0, 1) := by decide +kernel
theorem d_A_greaterPin_1 : decode mi_A_greaterPin.2.1 1 = .ok (.getfield 19, 3) := by decide +kernel
theorem d_A_greaterPin_4 : decode mi_A_greaterPin.2.1 4 = .ok (.iload_n 1, 1) := by decide +kernel
theorem d_A_greaterPin_5 : decode mi_A_greaterPin.2.1 5 = .ok (.invokestatic 93, 3) := by decide +kernel
theorem d_A_greaterPin_8 : decode mi_A_greaterPin.2.1 8 = .ok (.ireturn, 1) := by decide +kernel
theorem s_A_greaterPin_1 : kGet TT cl6 X mi_A_greaterPin 1 4 2 := k_get (index := 19) cK_4 d_A_greaterPin_1 (by decide) ⟨"Miterhouse$Ands", Or.inl t_3_183, Or.inl rfl⟩
theorem s_A_greaterPin_5 : kCall TT cl6 X mi_A_greaterPin 5 3 mi_M_numberAt 4 2 0 := k_staticN (index := 93) d_A_greaterPin_5 cs_M_numberAt rfl t_1_216 t_1_138
theorem d_A_isAnd_0 : decode mi_A_isAnd.2.1 0 = .ok (.iload_n 1, 1) := by decide +kernel
theorem d_A_isAnd_1 : decode mi_A_isAnd.2.1 1 = .ok (.aload_n 0, 1) := by decide +kernel
theorem d_A_isAnd_2 : decode mi_A_isAnd.2.1 2 = .ok (.getfield 31, 3) := by decide +kernel
theorem d_A_isAnd_5 : decode mi_A_isAnd.2.1 5 = .ok (.if_icmp .lt (15), 3) := by decide +kernel
theorem d_A_isAnd_8 : decode mi_A_isAnd.2.1 8 = .ok (.iload_n 1, 1) := by decide +kernel
theorem d_A_isAnd_9 : decode mi_A_isAnd.2.1 9 = .ok (.aload_n 0, 1) := by decide +kernel
theorem d_A_isAnd_10 : decode mi_A_isAnd.2.1 10 = .ok (.getfield 35, 3) := by decide +kernel
theorem d_A_isAnd_13 : decode mi_A_isAnd.2.1 13 = .ok (.if_icmp .ge (7), 3) := by decide +kernel
theorem d_A_isAnd_16 : decode mi_A_isAnd.2.1 16 = .ok (.iconst (1), 1) := by decide +kernel
theorem d_A_isAnd_17 : decode mi_A_isAnd.2.1 17 = .ok (.goto (4), 3) := by decide +kernel
theorem d_A_isAnd_20 : decode mi_A_isAnd.2.1 20 = .ok (.iconst (0), 1) := by decide +kernel
theorem d_A_isAnd_21 : decode mi_A_isAnd.2.1 21 = .ok (.ireturn, 1) := by decide +kernel
theorem s_A_isAnd_2 : kGet TT cl6 X mi_A_isAnd 2 4 4 := k_get (index := 31) cK_4 d_A_isAnd_2 (by decide) ⟨"Miterhouse$Ands", Or.inl t_3_185, Or.inl rfl⟩
theorem s_A_isAnd_10 : kGet TT cl6 X mi_A_isAnd 10 4 5 := k_get (index := 35) cK_4 d_A_isAnd_10 (by decide) ⟨"Miterhouse$Ands", Or.inl t_3_186, Or.inl rfl⟩
theorem d_A_lesserPin_0 : decode mi_A_lesserPin.2.1 0 = .ok (.aload_n 0, 1) := by decide +kernel
theorem d_A_lesserPin_1 : decode mi_A_lesserPin.2.1 1 = .ok (.getfield 15, 3) := by decide +kernel
theorem d_A_lesserPin_4 : decode mi_A_lesserPin.2.1 4 = .ok (.iload_n 1, 1) := by decide +kernel
theorem d_A_lesserPin_5 : decode mi_A_lesserPin.2.1 5 = .ok (.invokestatic 93, 3) := by decide +kernel
theorem d_A_lesserPin_8 : decode mi_A_lesserPin.2.1 8 = .ok (.ireturn, 1) := by decide +kernel
theorem s_A_lesserPin_1 : kGet TT cl6 X mi_A_lesserPin 1 4 1 := k_get (index := 15) cK_4 d_A_lesserPin_1 (by decide) ⟨"Miterhouse$Ands", Or.inl t_3_182, Or.inl rfl⟩
theorem s_A_lesserPin_5 : kCall TT cl6 X mi_A_lesserPin 5 3 mi_M_numberAt 4 2 0 := k_staticN (index := 93) d_A_lesserPin_5 cs_M_numberAt rfl t_1_216 t_1_138
theorem d_A_literalOf_0 : decode mi_A_literalOf.2.1 0 = .ok (.aload_n 0, 1) := by decide +kernel
theorem d_A_literalOf_1 : decode mi_A_literalOf.2.1 1 = .ok (.getfield 22, 3) := by decide +kernel
theorem d_A_literalOf_4 : decode mi_A_literalOf.2.1 4 = .ok (.iload_n 1, 1) := by decide +kernel
theorem d_A_literalOf_5 : decode mi_A_literalOf.2.1 5 = .ok (.invokestatic 93, 3) := by decide +kernel
theorem d_A_literalOf_8 : decode mi_A_literalOf.2.1 8 = .ok (.ireturn, 1) := by decide +kernel
theorem s_A_literalOf_1 : kGet TT cl6 X mi_A_literalOf 1 4 3 := k_get (index := 22) cK_4 d_A_literalOf_1 (by decide) ⟨"Miterhouse$Ands", Or.inl t_3_184, Or.inl rfl⟩
theorem s_A_literalOf_5 : kCall TT cl6 X mi_A_literalOf 5 3 mi_M_numberAt 4 2 0 := k_staticN (index := 93) d_A_literalOf_5 cs_M_numberAt rfl t_1_216 t_1_138
theorem d_A_nodeOf_0 : decode mi_A_nodeOf.2.1 0 = .ok (.aload_n 0, 1) := by decide +kernel
theorem d_A_nodeOf_1 : decode mi_A_nodeOf.2.1 1 = .ok (.getfield 31, 3) := by decide +kernel
theorem d_A_nodeOf_4 : decode mi_A_nodeOf.2.1 4 = .ok (.istore_n 3, 1) := by decide +kernel
theorem d_A_nodeOf_5 : decode mi_A_nodeOf.2.1 5 = .ok (.iload_n 3, 1) := by decide +kernel
theorem d_A_nodeOf_6 : decode mi_A_nodeOf.2.1 6 = .ok (.aload_n 0, 1) := by decide +kernel
theorem d_A_nodeOf_7 : decode mi_A_nodeOf.2.1 7 = .ok (.getfield 35, 3) := by decide +kernel
theorem d_A_nodeOf_10 : decode mi_A_nodeOf.2.1 10 = .ok (.if_icmp .ge (37), 3) := by decide +kernel
theorem d_A_nodeOf_13 : decode mi_A_nodeOf.2.1 13 = .ok (.aload_n 0, 1) := by decide +kernel
theorem d_A_nodeOf_14 : decode mi_A_nodeOf.2.1 14 = .ok (.getfield 15, 3) := by decide +kernel
theorem d_A_nodeOf_17 : decode mi_A_nodeOf.2.1 17 = .ok (.iload_n 3, 1) := by decide +kernel
theorem d_A_nodeOf_18 : decode mi_A_nodeOf.2.1 18 = .ok (.invokestatic 93, 3) := by decide +kernel
theorem d_A_nodeOf_21 : decode mi_A_nodeOf.2.1 21 = .ok (.iload_n 1, 1) := by decide +kernel
theorem d_A_nodeOf_22 : decode mi_A_nodeOf.2.1 22 = .ok (.if_icmp .ne (19), 3) := by decide +kernel
theorem d_A_nodeOf_25 : decode mi_A_nodeOf.2.1 25 = .ok (.aload_n 0, 1) := by decide +kernel
theorem d_A_nodeOf_26 : decode mi_A_nodeOf.2.1 26 = .ok (.getfield 19, 3) := by decide +kernel
theorem d_A_nodeOf_29 : decode mi_A_nodeOf.2.1 29 = .ok (.iload_n 3, 1) := by decide +kernel
theorem d_A_nodeOf_30 : decode mi_A_nodeOf.2.1 30 = .ok (.invokestatic 93, 3) := by decide +kernel
theorem d_A_nodeOf_33 : decode mi_A_nodeOf.2.1 33 = .ok (.iload_n 2, 1) := by decide +kernel
theorem d_A_nodeOf_34 : decode mi_A_nodeOf.2.1 34 = .ok (.if_icmp .ne (7), 3) := by decide +kernel
theorem d_A_nodeOf_37 : decode mi_A_nodeOf.2.1 37 = .ok (.iconst (2), 1) := by decide +kernel
theorem d_A_nodeOf_38 : decode mi_A_nodeOf.2.1 38 = .ok (.iload_n 3, 1) := by decide +kernel
theorem d_A_nodeOf_39 : decode mi_A_nodeOf.2.1 39 = .ok (.imul, 1) := by decide +kernel
theorem d_A_nodeOf_40 : decode mi_A_nodeOf.2.1 40 = .ok (.ireturn, 1) := by decide +kernel
theorem d_A_nodeOf_41 : decode mi_A_nodeOf.2.1 41 = .ok (.iinc 3 (1), 3) := by decide +kernel
theorem d_A_nodeOf_44 : decode mi_A_nodeOf.2.1 44 = .ok (.goto (-39), 3) := by decide +kernel
theorem d_A_nodeOf_47 : decode mi_A_nodeOf.2.1 47 = .ok (.aload_n 0, 1) := by decide +kernel
theorem d_A_nodeOf_48 : decode mi_A_nodeOf.2.1 48 = .ok (.getfield 15, 3) := by decide +kernel
theorem d_A_nodeOf_51 : decode mi_A_nodeOf.2.1 51 = .ok (.aload_n 0, 1) := by decide +kernel
theorem d_A_nodeOf_52 : decode mi_A_nodeOf.2.1 52 = .ok (.getfield 35, 3) := by decide +kernel
theorem d_A_nodeOf_55 : decode mi_A_nodeOf.2.1 55 = .ok (.iload_n 1, 1) := by decide +kernel
theorem d_A_nodeOf_56 : decode mi_A_nodeOf.2.1 56 = .ok (.invokestatic 52, 3) := by decide +kernel
theorem d_A_nodeOf_59 : decode mi_A_nodeOf.2.1 59 = .ok (.aload_n 0, 1) := by decide +kernel
theorem d_A_nodeOf_60 : decode mi_A_nodeOf.2.1 60 = .ok (.getfield 19, 3) := by decide +kernel
theorem d_A_nodeOf_63 : decode mi_A_nodeOf.2.1 63 = .ok (.aload_n 0, 1) := by decide +kernel
theorem d_A_nodeOf_64 : decode mi_A_nodeOf.2.1 64 = .ok (.getfield 35, 3) := by decide +kernel
theorem d_A_nodeOf_67 : decode mi_A_nodeOf.2.1 67 = .ok (.iload_n 2, 1) := by decide +kernel
theorem d_A_nodeOf_68 : decode mi_A_nodeOf.2.1 68 = .ok (.invokestatic 52, 3) := by decide +kernel
theorem d_A_nodeOf_71 : decode mi_A_nodeOf.2.1 71 = .ok (.aload_n 0, 1) := by decide +kernel
theorem d_A_nodeOf_72 : decode mi_A_nodeOf.2.1 72 = .ok (.dup, 1) := by decide +kernel
theorem d_A_nodeOf_73 : decode mi_A_nodeOf.2.1 73 = .ok (.getfield 35, 3) := by decide +kernel
theorem d_A_nodeOf_76 : decode mi_A_nodeOf.2.1 76 = .ok (.iconst (1), 1) := by decide +kernel
theorem d_A_nodeOf_77 : decode mi_A_nodeOf.2.1 77 = .ok (.iadd, 1) := by decide +kernel
theorem d_A_nodeOf_78 : decode mi_A_nodeOf.2.1 78 = .ok (.putfield 35, 3) := by decide +kernel
theorem d_A_nodeOf_81 : decode mi_A_nodeOf.2.1 81 = .ok (.iconst (2), 1) := by decide +kernel
theorem d_A_nodeOf_82 : decode mi_A_nodeOf.2.1 82 = .ok (.aload_n 0, 1) := by decide +kernel
theorem d_A_nodeOf_83 : decode mi_A_nodeOf.2.1 83 = .ok (.getfield 35, 3) := by decide +kernel
theorem d_A_nodeOf_86 : decode mi_A_nodeOf.2.1 86 = .ok (.iconst (1), 1) := by decide +kernel
theorem d_A_nodeOf_87 : decode mi_A_nodeOf.2.1 87 = .ok (.isub, 1) := by decide +kernel
theorem d_A_nodeOf_88 : decode mi_A_nodeOf.2.1 88 = .ok (.imul, 1) := by decide +kernel
theorem d_A_nodeOf_89 : decode mi_A_nodeOf.2.1 89 = .ok (.ireturn, 1) := by decide +kernel
theorem s_A_nodeOf_1 : kGet TT cl6 X mi_A_nodeOf 1 4 4 := k_get (index := 31) cK_4 d_A_nodeOf_1 (by decide) ⟨"Miterhouse$Ands", Or.inl t_3_185, Or.inl rfl⟩
theorem s_A_nodeOf_7 : kGet TT cl6 X mi_A_nodeOf 7 4 5 := k_get (index := 35) cK_4 d_A_nodeOf_7 (by decide) ⟨"Miterhouse$Ands", Or.inl t_3_186, Or.inl rfl⟩
theorem s_A_nodeOf_14 : kGet TT cl6 X mi_A_nodeOf 14 4 1 := k_get (index := 15) cK_4 d_A_nodeOf_14 (by decide) ⟨"Miterhouse$Ands", Or.inl t_3_182, Or.inl rfl⟩
theorem s_A_nodeOf_18 : kCall TT cl6 X mi_A_nodeOf 18 3 mi_M_numberAt 4 2 0 := k_staticN (index := 93) d_A_nodeOf_18 cs_M_numberAt rfl t_1_216 t_1_138
theorem s_A_nodeOf_26 : kGet TT cl6 X mi_A_nodeOf 26 4 2 := k_get (index := 19) cK_4 d_A_nodeOf_26 (by decide) ⟨"Miterhouse$Ands", Or.inl t_3_183, Or.inl rfl⟩
theorem s_A_nodeOf_30 : kCall TT cl6 X mi_A_nodeOf 30 3 mi_M_numberAt 4 2 0 := k_staticN (index := 93) d_A_nodeOf_30 cs_M_numberAt rfl t_1_216 t_1_138
theorem s_A_nodeOf_48 : kGet TT cl6 X mi_A_nodeOf 48 4 1 := k_get (index := 15) cK_4 d_A_nodeOf_48 (by decide) ⟨"Miterhouse$Ands", Or.inl t_3_182, Or.inl rfl⟩
theorem s_A_nodeOf_52 : kGet TT cl6 X mi_A_nodeOf 52 4 5 := k_get (index := 35) cK_4 d_A_nodeOf_52 (by decide) ⟨"Miterhouse$Ands", Or.inl t_3_186, Or.inl rfl⟩
theorem s_A_nodeOf_56 : kCall TT cl6 X mi_A_nodeOf 56 3 mi_M_putNumber 4 3 0 := k_staticN (index := 52) d_A_nodeOf_56 cs_M_putNumber rfl t_5_78 t_1_184
theorem s_A_nodeOf_60 : kGet TT cl6 X mi_A_nodeOf 60 4 2 := k_get (index := 19) cK_4 d_A_nodeOf_60 (by decide) ⟨"Miterhouse$Ands", Or.inl t_3_183, Or.inl rfl⟩
theorem s_A_nodeOf_64 : kGet TT cl6 X mi_A_nodeOf 64 4 5 := k_get (index := 35) cK_4 d_A_nodeOf_64 (by decide) ⟨"Miterhouse$Ands", Or.inl t_3_186, Or.inl rfl⟩
theorem s_A_nodeOf_68 : kCall TT cl6 X mi_A_nodeOf 68 3 mi_M_putNumber 4 3 0 := k_staticN (index := 52) d_A_nodeOf_68 cs_M_putNumber rfl t_5_78 t_1_184
theorem s_A_nodeOf_73 : kGet TT cl6 X mi_A_nodeOf 73 4 5 := k_get (index := 35) cK_4 d_A_nodeOf_73 (by decide) ⟨"Miterhouse$Ands", Or.inl t_3_186, Or.inl rfl⟩
theorem s_A_nodeOf_78 : kPut TT cl6 X mi_A_nodeOf 78 4 5 .int := k_put (index := 35) cK_4 d_A_nodeOf_78 (by decide) ⟨"Miterhouse$Ands", Or.inl t_3_186, Or.inl rfl⟩ rfl
theorem s_A_nodeOf_83 : kGet TT cl6 X mi_A_nodeOf 83 4 5 := k_get (index := 35) cK_4 d_A_nodeOf_83 (by decide) ⟨"Miterhouse$Ands", Or.inl t_3_186, Or.inl rfl⟩
theorem d_S_init_0 : decode mi_S_init.2.1 0 = .ok (.aload_n 0, 1) := by decide +kernel
theorem d_S_init_1 : decode mi_S_init.2.1 1 = .ok (.invokespecial 3, 3) := by decide +kernel
theorem d_S_init_4 : decode mi_S_init.2.1 4 = .ok (.aload_n 0, 1) := by decide +kernel
theorem d_S_init_5 : decode mi_S_init.2.1 5 = .ok (.aload_n 1, 1) := by decide +kernel
theorem d_S_init_6 : decode mi_S_init.2.1 6 = .ok (.putfield 9, 3) := by decide +kernel
theorem d_S_init_9 : decode mi_S_init.2.1 9 = .ok (.aload_n 0, 1) := by decide +kernel
theorem d_S_init_10 : decode mi_S_init.2.1 10 = .ok (.aload_n 2, 1) := by decide +kernel
theorem d_S_init_11 : decode mi_S_init.2.1 11 = .ok (.putfield 15, 3) := by decide +kernel
theorem d_S_init_14 : decode mi_S_init.2.1 14 = .ok (.aload_n 0, 1) := by decide +kernel
theorem d_S_init_15 : decode mi_S_init.2.1 15 = .ok (.bipush (80), 2) := by decide +kernel
theorem d_S_init_17 : decode mi_S_init.2.1 17 = .ok (.newarray .long, 2) := by decide +kernel
theorem d_S_init_19 : decode mi_S_init.2.1 19 = .ok (.putfield 19, 3) := by decide +kernel
theorem d_S_init_22 : decode mi_S_init.2.1 22 = .ok (.aload_n 0, 1) := by decide +kernel
theorem d_S_init_23 : decode mi_S_init.2.1 23 = .ok (.bipush (80), 2) := by decide +kernel
theorem d_S_init_25 : decode mi_S_init.2.1 25 = .ok (.newarray .int, 2) := by decide +kernel
theorem d_S_init_27 : decode mi_S_init.2.1 27 = .ok (.putfield 23, 3) := by decide +kernel
theorem d_S_init_30 : decode mi_S_init.2.1 30 = .ok (.iconst (0), 1) := by decide +kernel
theorem d_S_init_31 : decode mi_S_init.2.1 31 = .ok (.istore_n 3, 1) := by decide +kernel
theorem d_S_init_32 : decode mi_S_init.2.1 32 = .ok (.iload_n 3, 1) := by decide +kernel
theorem d_S_init_33 : decode mi_S_init.2.1 33 = .ok (.aload_n 0, 1) := by decide +kernel
theorem d_S_init_34 : decode mi_S_init.2.1 34 = .ok (.getfield 23, 3) := by decide +kernel
theorem d_S_init_37 : decode mi_S_init.2.1 37 = .ok (.arraylength, 1) := by decide +kernel
theorem d_S_init_38 : decode mi_S_init.2.1 38 = .ok (.if_icmp .ge (18), 3) := by decide +kernel
theorem d_S_init_41 : decode mi_S_init.2.1 41 = .ok (.aload_n 0, 1) := by decide +kernel
theorem d_S_init_42 : decode mi_S_init.2.1 42 = .ok (.getfield 23, 3) := by decide +kernel
theorem d_S_init_45 : decode mi_S_init.2.1 45 = .ok (.iload_n 3, 1) := by decide +kernel
theorem d_S_init_46 : decode mi_S_init.2.1 46 = .ok (.iconst (2), 1) := by decide +kernel
theorem d_S_init_47 : decode mi_S_init.2.1 47 = .ok (.iload_n 3, 1) := by decide +kernel
theorem d_S_init_48 : decode mi_S_init.2.1 48 = .ok (.imul, 1) := by decide +kernel
theorem d_S_init_49 : decode mi_S_init.2.1 49 = .ok (.iastore, 1) := by decide +kernel
theorem d_S_init_50 : decode mi_S_init.2.1 50 = .ok (.iinc 3 (1), 3) := by decide +kernel
theorem d_S_init_53 : decode mi_S_init.2.1 53 = .ok (.goto (-21), 3) := by decide +kernel
theorem d_S_init_56 : decode mi_S_init.2.1 56 = .ok (.aload_n 0, 1) := by decide +kernel
theorem d_S_init_57 : decode mi_S_init.2.1 57 = .ok (.iconst (0), 1) := by decide +kernel
theorem d_S_init_58 : decode mi_S_init.2.1 58 = .ok (.putfield 27, 3) := by decide +kernel
theorem d_S_init_61 : decode mi_S_init.2.1 61 = .ok (.aload_n 0, 1) := by decide +kernel
theorem d_S_init_62 : decode mi_S_init.2.1 62 = .ok (.iconst (0), 1) := by decide +kernel
theorem d_S_init_63 : decode mi_S_init.2.1 63 = .ok (.putfield 31, 3) := by decide +kernel
theorem d_S_init_66 : decode mi_S_init.2.1 66 = .ok (.aload_n 0, 1) := by decide +kernel
theorem d_S_init_67 : decode mi_S_init.2.1 67 = .ok (.lconst 0, 1) := by decide +kernel
theorem d_S_init_68 : decode mi_S_init.2.1 68 = .ok (.putfield 34, 3) := by decide +kernel
theorem d_S_init_71 : decode mi_S_init.2.1 71 = .ok (.aload_n 0, 1) := by decide +kernel
theorem d_S_init_72 : decode mi_S_init.2.1 72 = .ok (.iconst (0), 1) := by decide +kernel
theorem d_S_init_73 : decode mi_S_init.2.1 73 = .ok (.putfield 38, 3) := by decide +kernel
theorem d_S_init_76 : decode mi_S_init.2.1 76 = .ok (.aload_n 0, 1) := by decide +kernel
theorem d_S_init_77 : decode mi_S_init.2.1 77 = .ok (.iconst (-1), 1) := by decide +kernel
theorem d_S_init_78 : decode mi_S_init.2.1 78 = .ok (.putfield 41, 3) := by decide +kernel
theorem d_S_init_81 : decode mi_S_init.2.1 81 = .ok (.return_, 1) := by decide +kernel
theorem s_S_init_1 : kObj TT cl6 X mi_S_init 1 := k_obj (index := 3) d_S_init_1 t_3_205 t_1_36 t_1_37
theorem s_S_init_6 : kPut TT cl6 X mi_S_init 6 5 0 (.object "Miterhouse$Nets") := k_putF (index := 9) cK_5 d_S_init_6 (by decide) t_3_206 rfl rfl rfl
theorem s_S_init_11 : kPut TT cl6 X mi_S_init 11 5 1 (.object "Miterhouse$Values") := k_putF (index := 15) cK_5 d_S_init_11 (by decide) t_3_207 rfl rfl rfl
theorem s_S_init_19 : kPut TT cl6 X mi_S_init 19 5 2 (.array .long) := k_putF (index := 19) cK_5 d_S_init_19 (by decide) t_3_208 rfl rfl rfl
theorem s_S_init_27 : kPut TT cl6 X mi_S_init 27 5 3 (.array .int) := k_putF (index := 23) cK_5 d_S_init_27 (by decide) t_3_209 rfl rfl rfl
theorem s_S_init_34 : kGet TT cl6 X mi_S_init 34 5 3 := k_get (index := 23) cK_5 d_S_init_34 (by decide) ⟨"Miterhouse$Sweeping", Or.inl t_3_209, Or.inl rfl⟩
theorem s_S_init_42 : kGet TT cl6 X mi_S_init 42 5 3 := k_get (index := 23) cK_5 d_S_init_42 (by decide) ⟨"Miterhouse$Sweeping", Or.inl t_3_209, Or.inl rfl⟩
theorem s_S_init_58 : kPut TT cl6 X mi_S_init 58 5 4 .int := k_put (index := 27) cK_5 d_S_init_58 (by decide) ⟨"Miterhouse$Sweeping", Or.inl t_3_210, Or.inl rfl⟩ rfl
theorem s_S_init_63 : kPut TT cl6 X mi_S_init 63 5 5 .int := k_put (index := 31) cK_5 d_S_init_63 (by decide) ⟨"Miterhouse$Sweeping", Or.inl t_3_212, Or.inl rfl⟩ rfl
theorem s_S_init_68 : kPut TT cl6 X mi_S_init 68 5 6 .long := k_put (index := 34) cK_5 d_S_init_68 (by decide) ⟨"Miterhouse$Sweeping", Or.inl t_3_214, Or.inl rfl⟩ rfl
theorem s_S_init_73 : kPut TT cl6 X mi_S_init 73 5 7 .int := k_put (index := 38) cK_5 d_S_init_73 (by decide) ⟨"Miterhouse$Sweeping", Or.inl t_3_215, Or.inl rfl⟩ rfl
theorem s_S_init_78 : kPut TT cl6 X mi_S_init 78 5 8 .int := k_put (index := 41) cK_5 d_S_init_78 (by decide) ⟨"Miterhouse$Sweeping", Or.inl t_3_217, Or.inl rfl⟩ rfl
theorem d_S_addPattern_0 : decode mi_S_addPattern.2.1 0 = .ok (.aload_n 0, 1) := by decide +kernel
theorem d_S_addPattern_1 : decode mi_S_addPattern.2.1 1 = .ok (.getfield 27, 3) := by decide +kernel
theorem d_S_addPattern_4 : decode mi_S_addPattern.2.1 4 = .ok (.istore_n 2, 1) := by decide +kernel
theorem d_S_addPattern_5 : decode mi_S_addPattern.2.1 5 = .ok (.iconst (0), 1) := by decide +kernel
theorem d_S_addPattern_6 : decode mi_S_addPattern.2.1 6 = .ok (.istore_n 3, 1) := by decide +kernel
theorem d_S_addPattern_7 : decode mi_S_addPattern.2.1 7 = .ok (.iload_n 3, 1) := by decide +kernel
theorem d_S_addPattern_8 : decode mi_S_addPattern.2.1 8 = .ok (.aload_n 0, 1) := by decide +kernel
theorem d_S_addPattern_9 : decode mi_S_addPattern.2.1 9 = .ok (.getfield 9, 3) := by decide +kernel
theorem d_S_addPattern_12 : decode mi_S_addPattern.2.1 12 = .ok (.getfield 56, 3) := by decide +kernel
theorem d_S_addPattern_15 : decode mi_S_addPattern.2.1 15 = .ok (.if_icmp .ge (39), 3) := by decide +kernel
theorem d_S_addPattern_18 : decode mi_S_addPattern.2.1 18 = .ok (.aload_n 0, 1) := by decide +kernel
theorem d_S_addPattern_19 : decode mi_S_addPattern.2.1 19 = .ok (.getfield 15, 3) := by decide +kernel
theorem d_S_addPattern_22 : decode mi_S_addPattern.2.1 22 = .ok (.iload_n 3, 1) := by decide +kernel
theorem d_S_addPattern_23 : decode mi_S_addPattern.2.1 23 = .ok (.iload_n 1, 1) := by decide +kernel
theorem d_S_addPattern_24 : decode mi_S_addPattern.2.1 24 = .ok (.invokevirtual 61, 3) := by decide +kernel
theorem d_S_addPattern_27 : decode mi_S_addPattern.2.1 27 = .ok (.i2l, 1) := by decide +kernel
theorem d_S_addPattern_28 : decode mi_S_addPattern.2.1 28 = .ok (.lstore 4, 2) := by decide +kernel
theorem d_S_addPattern_30 : decode mi_S_addPattern.2.1 30 = .ok (.aload_n 0, 1) := by decide +kernel
theorem d_S_addPattern_31 : decode mi_S_addPattern.2.1 31 = .ok (.getfield 19, 3) := by decide +kernel
theorem d_S_addPattern_34 : decode mi_S_addPattern.2.1 34 = .ok (.iload_n 3, 1) := by decide +kernel
theorem d_S_addPattern_35 : decode mi_S_addPattern.2.1 35 = .ok (.aload_n 0, 1) := by decide +kernel
theorem d_S_addPattern_36 : decode mi_S_addPattern.2.1 36 = .ok (.iload_n 3, 1) := by decide +kernel
theorem d_S_addPattern_37 : decode mi_S_addPattern.2.1 37 = .ok (.invokevirtual 67, 3) := by decide +kernel
theorem d_S_addPattern_40 : decode mi_S_addPattern.2.1 40 = .ok (.lload 4, 2) := by decide +kernel
theorem d_S_addPattern_42 : decode mi_S_addPattern.2.1 42 = .ok (.iload_n 2, 1) := by decide +kernel
theorem d_S_addPattern_43 : decode mi_S_addPattern.2.1 43 = .ok (.lshl, 1) := by decide +kernel
theorem d_S_addPattern_44 : decode mi_S_addPattern.2.1 44 = .ok (.lor, 1) := by decide +kernel
theorem d_S_addPattern_45 : decode mi_S_addPattern.2.1 45 = .ok (.invokestatic 71, 3) := by decide +kernel
theorem d_S_addPattern_48 : decode mi_S_addPattern.2.1 48 = .ok (.iinc 3 (1), 3) := by decide +kernel
theorem d_S_addPattern_51 : decode mi_S_addPattern.2.1 51 = .ok (.goto (-44), 3) := by decide +kernel
theorem d_S_addPattern_54 : decode mi_S_addPattern.2.1 54 = .ok (.aload_n 0, 1) := by decide +kernel
theorem d_S_addPattern_55 : decode mi_S_addPattern.2.1 55 = .ok (.iload_n 2, 1) := by decide +kernel
theorem d_S_addPattern_56 : decode mi_S_addPattern.2.1 56 = .ok (.iconst (1), 1) := by decide +kernel
theorem d_S_addPattern_57 : decode mi_S_addPattern.2.1 57 = .ok (.iadd, 1) := by decide +kernel
theorem d_S_addPattern_58 : decode mi_S_addPattern.2.1 58 = .ok (.putfield 27, 3) := by decide +kernel
theorem d_S_addPattern_61 : decode mi_S_addPattern.2.1 61 = .ok (.iload_n 2, 1) := by decide +kernel
theorem d_S_addPattern_62 : decode mi_S_addPattern.2.1 62 = .ok (.ireturn, 1) := by decide +kernel
theorem s_S_addPattern_1 : kGet TT cl6 X mi_S_addPattern 1 5 4 := k_get (index := 27) cK_5 d_S_addPattern_1 (by decide) ⟨"Miterhouse$Sweeping", Or.inl t_3_210, Or.inl rfl⟩
theorem s_S_addPattern_9 : kGet TT cl6 X mi_S_addPattern 9 5 0 := k_get (index := 9) cK_5 d_S_addPattern_9 (by decide) ⟨"Miterhouse$Sweeping", Or.inl t_3_206, Or.inl rfl⟩
theorem s_S_addPattern_12 : kGet TT cl6 X mi_S_addPattern 12 1 11 := k_get (index := 56) cK_1 d_S_addPattern_12 (by decide) ⟨"Miterhouse$Nets", Or.inl t_1_59, Or.inl rfl⟩
theorem s_S_addPattern_19 : kGet TT cl6 X mi_S_addPattern 19 5 1 := k_get (index := 15) cK_5 d_S_addPattern_19 (by decide) ⟨"Miterhouse$Sweeping", Or.inl t_3_207, Or.inl rfl⟩
theorem s_S_addPattern_24 : kCall TT cl6 X mi_S_addPattern 24 3 mi_V_bitAtChoice 2 3 3 := k_virtual (index := 61) d_S_addPattern_24 cs_V_bitAtChoice rfl rfl t_2_57 t_1_145 t_1_146
theorem s_S_addPattern_31 : kGet TT cl6 X mi_S_addPattern 31 5 2 := k_get (index := 19) cK_5 d_S_addPattern_31 (by decide) ⟨"Miterhouse$Sweeping", Or.inl t_3_208, Or.inl rfl⟩
theorem s_S_addPattern_37 : kCall TT cl6 X mi_S_addPattern 37 3 mi_S_signatureOf 2 2 5 := k_virtual (index := 67) d_S_addPattern_37 cs_S_signatureOf rfl rfl t_5_163 t_5_164 t_5_165
theorem s_S_addPattern_45 : kCall TT cl6 X mi_S_addPattern 45 3 mi_M_putWord 4 3 0 := k_staticN (index := 71) d_S_addPattern_45 cs_M_putWord rfl t_5_168 t_1_233
theorem s_S_addPattern_58 : kPut TT cl6 X mi_S_addPattern 58 5 4 .int := k_put (index := 27) cK_5 d_S_addPattern_58 (by decide) ⟨"Miterhouse$Sweeping", Or.inl t_3_210, Or.inl rfl⟩ rfl
end RW3
