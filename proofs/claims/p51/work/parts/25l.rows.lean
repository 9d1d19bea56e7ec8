section RW11
variable {X : XT} {L9 : Nat} {xs : Nat → Int32}
theorem s_W_law_0 : kNew TT cl6 X mi_W_law 0 0 3 [.null, .null, .null] := k_new (index := 10) cK_0 d_W_law_0 t_1_30 t_1_31 t_1_1 (by decide +kernel) (by decide)
theorem s_W_law_4 : kCall TT cl6 X mi_W_law 4 3 mi_M_init 3 1 0 := k_init (index := 144) d_W_law_4 cs_M_init rfl rfl rfl t_1_32 t_1_33
theorem s_W_law_9 : kCall TT cl6 X mi_W_law 9 3 mi_W_close 1 1 0 := k_static (index := 129) d_W_law_9 cs_W_close t_3_84 t_3_85
theorem s_W_law_12 : kPush TT cl6 X mi_W_law 12 2 (.int (Int32.ofInt (-900001))) := k_ldc (index := 17) d_W_law_12 t_2_221
theorem s_W_law_21 : kCall TT cl6 X mi_W_law 21 3 mi_W_cell 1 4 0 := k_static (index := 123) d_W_law_21 cs_W_cell t_2_66 t_2_67
theorem s_W_law_24 : kPush TT cl6 X mi_W_law 24 2 (.int (Int32.ofInt (-900001))) := k_ldc (index := 17) d_W_law_24 t_2_221
theorem s_W_law_35 : kCall TT cl6 X mi_W_law 35 3 mi_W_gate 1 5 0 := k_static (index := 126) d_W_law_35 cs_W_gate t_2_224 t_2_225
theorem s_W_law_38 : kPush TT cl6 X mi_W_law 38 2 (.int (Int32.ofInt (-900001))) := k_ldc (index := 17) d_W_law_38 t_2_221
theorem s_W_law_49 : kCall TT cl6 X mi_W_law 49 3 mi_W_gate 1 5 0 := k_static (index := 126) d_W_law_49 cs_W_gate t_2_224 t_2_225
theorem s_W_law_52 : kPush TT cl6 X mi_W_law 52 2 (.int (Int32.ofInt (-900002))) := k_ldc (index := 20) d_W_law_52 t_2_222
theorem s_W_law_60 : kCall TT cl6 X mi_W_law 60 3 mi_W_output 1 3 0 := k_static (index := 134) d_W_law_60 cs_W_output t_3_70 t_3_71
theorem s_W_law_63 : kPush TT cl6 X mi_W_law 63 2 (.int (Int32.ofInt (-900001))) := k_ldc (index := 17) d_W_law_63 t_2_221
theorem s_W_law_71 : kCall TT cl6 X mi_W_law 71 3 mi_W_output 1 3 0 := k_static (index := 134) d_W_law_71 cs_W_output t_3_70 t_3_71
theorem s_W_law_74 : kPush TT cl6 X mi_W_law 74 2 (.int (Int32.ofInt (-900002))) := k_ldc (index := 20) d_W_law_74 t_2_222
theorem s_W_law_82 : kCall TT cl6 X mi_W_law 82 3 mi_W_data 1 3 0 := k_static (index := 131) d_W_law_82 cs_W_data t_3_51 t_3_52
theorem s_W_law_85 : kPush TT cl6 X mi_W_law 85 2 (.int (Int32.ofInt (-900001))) := k_ldc (index := 17) d_W_law_85 t_2_221
theorem s_W_law_92 : kCall TT cl6 X mi_W_law 92 3 mi_W_literal 1 2 0 := k_static (index := 145) d_W_law_92 cs_W_literal t_5_130 t_5_131
theorem s_W_law_95 : kPush TT cl6 X mi_W_law 95 2 (.int (Int32.ofInt (-900001))) := k_ldc (index := 17) d_W_law_95 t_2_221
theorem s_W_law_101 : kCall TT cl6 X mi_W_law 101 3 mi_W_ands 1 1 0 := k_static (index := 148) d_W_law_101 cs_W_ands t_5_138 t_5_139
theorem s_W_law_104 : kPush TT cl6 X mi_W_law 104 2 (.int (Int32.ofInt (-900001))) := k_ldc (index := 17) d_W_law_104 t_2_221
theorem s_W_law_111 : kCall TT cl6 X mi_W_law 111 3 mi_W_sweep 1 2 0 := k_static (index := 150) d_W_law_111 cs_W_sweep t_5_209 t_5_210
theorem s_W_law_114 : kPush TT cl6 X mi_W_law 114 2 (.int (Int32.ofInt (-900001))) := k_ldc (index := 17) d_W_law_114 t_2_221
theorem s_W_law_121 : kCall TT cl6 X mi_W_law 121 3 mi_W_sweep 1 2 0 := k_static (index := 150) d_W_law_121 cs_W_sweep t_5_209 t_5_210
theorem s_W_law_124 : kPush TT cl6 X mi_W_law 124 2 (.int (Int32.ofInt (-900002))) := k_ldc (index := 20) d_W_law_124 t_2_222
theorem s_W_law_130 : kCall TT cl6 X mi_W_law 130 3 mi_W_reached 1 1 0 := k_static (index := 152) d_W_law_130 cs_W_reached t_5_230 t_5_231
theorem s_W_law_133 : kPush TT cl6 X mi_W_law 133 2 (.int (Int32.ofInt (-900001))) := k_ldc (index := 17) d_W_law_133 t_2_221
theorem s_W_law_139 : kCall TT cl6 X mi_W_law 139 3 mi_M_lines 2 1 0 := k_virtual (index := 154) d_W_law_139 cs_M_lines rfl rfl t_1_108 t_1_109 t_1_110
theorem s_W_law_155 : kCall TT cl6 X mi_W_law 155 3 mi_W_in 1 3 0 := k_static (index := 104) d_W_law_155 cs_W_in t_6_64 t_6_65
theorem s_W_law_163 : kCall TT cl6 X mi_W_law 163 3 mi_W_in 1 3 0 := k_static (index := 104) d_W_law_163 cs_W_in t_6_64 t_6_65
theorem s_W_law_178 : kCall TT cl6 X mi_W_law 178 3 mi_W_in 1 3 0 := k_static (index := 104) d_W_law_178 cs_W_in t_6_64 t_6_65
theorem s_W_law_182 : kCall TT cl6 X mi_W_law 182 3 mi_W_netsBy 1 4 0 := k_static (index := 157) d_W_law_182 cs_W_netsBy t_6_73 t_6_74
theorem s_W_law_207 : kCall TT cl6 X mi_W_law 207 3 mi_W_in 1 3 0 := k_static (index := 104) d_W_law_207 cs_W_in t_6_64 t_6_65
theorem s_W_law_226 : kCall TT cl6 X mi_W_law 226 3 mi_W_isBuilt 1 5 0 := k_static (index := 163) d_W_law_226 cs_W_isBuilt t_6_122 t_6_123
theorem s_W_law_244 : kCall TT cl6 X mi_W_law 244 3 mi_W_in 1 3 0 := k_static (index := 104) d_W_law_244 cs_W_in t_6_64 t_6_65
theorem s_W_law_381 : kCall TT cl6 X mi_W_law 381 3 mi_W_valuesBy 1 3 0 := k_static (index := 167) d_W_law_381 cs_W_valuesBy t_6_137 t_6_138
theorem s_W_law_415 : kCall TT cl6 X mi_W_law 415 3 mi_W_value 1 3 0 := k_static (index := 171) d_W_law_415 cs_W_value t_5_118 t_5_119
theorem s_W_law_473 : kCall TT cl6 X mi_W_law 473 3 mi_W_value 1 3 0 := k_static (index := 171) d_W_law_473 cs_W_value t_5_118 t_5_119
theorem s_W_law_476 : kPush TT cl6 X mi_W_law 476 2 (.int (Int32.ofInt (-900002))) := k_ldc (index := 20) d_W_law_476 t_2_222
theorem s_W_law_486 : kCall TT cl6 X mi_W_law 486 3 mi_W_value 1 3 0 := k_static (index := 171) d_W_law_486 cs_W_value t_5_118 t_5_119
theorem s_W_law_489 : kPush TT cl6 X mi_W_law 489 2 (.int (Int32.ofInt (-900001))) := k_ldc (index := 17) d_W_law_489 t_2_221
theorem s_W_law_497 : kCall TT cl6 X mi_W_law 497 3 mi_W_constrain 1 2 0 := k_static (index := 173) d_W_law_497 cs_W_constrain t_5_81 t_5_82
theorem s_W_law_510 : kPush TT cl6 X mi_W_law 510 2 (.int (Int32.ofInt (-900002))) := k_ldc (index := 20) d_W_law_510 t_2_222
theorem s_W_law_569 : kCall TT cl6 X mi_W_law 569 3 mi_W_pattern 1 2 0 := k_static (index := 175) d_W_law_569 cs_W_pattern t_5_149 t_5_150
theorem s_W_law_589 : kCall TT cl6 X mi_W_law 589 3 mi_M_patterns 2 1 0 := k_virtual (index := 177) d_W_law_589 cs_M_patterns rfl rfl t_1_104 t_1_105 t_1_106
theorem s_W_law_606 : kCall TT cl6 X mi_W_law 606 3 mi_M_patterns 2 1 0 := k_virtual (index := 177) d_W_law_606 cs_M_patterns rfl rfl t_1_104 t_1_105 t_1_106
theorem s_W_law_647 : kCall TT cl6 X mi_W_law 647 3 mi_W_in 1 3 0 := k_static (index := 104) d_W_law_647 cs_W_in t_6_64 t_6_65
theorem s_W_law_662 : kCall TT cl6 X mi_W_law 662 3 mi_W_in 1 3 0 := k_static (index := 104) d_W_law_662 cs_W_in t_6_64 t_6_65
theorem s_W_law_675 : kCall TT cl6 X mi_W_law 675 3 mi_W_in 1 3 0 := k_static (index := 104) d_W_law_675 cs_W_in t_6_64 t_6_65
theorem s_W_law_703 : kCall TT cl6 X mi_W_law 703 3 mi_W_leaves 1 8 0 := k_static (index := 140) d_W_law_703 cs_W_leaves t_6_140 t_6_141
theorem s_W_law_728 : kCall TT cl6 X mi_W_law 728 3 mi_W_prove 1 5 0 := k_static (index := 180) d_W_law_728 cs_W_prove t_5_169 t_5_170
theorem s_W_law_762 : kCall TT cl6 X mi_W_law 762 3 mi_W_proof 1 4 0 := k_static (index := 183) d_W_law_762 cs_W_proof t_5_177 t_5_178
theorem s_W_law_770 : kPush TT cl6 X mi_W_law 770 2 (.int (Int32.ofInt (-900003))) := k_ldc (index := 27) d_W_law_770 t_2_223
theorem s_W_law_796 : kCall TT cl6 X mi_W_law 796 3 mi_W_witness 1 4 0 := k_static (index := 186) d_W_law_796 cs_W_witness t_5_201 t_5_202
theorem s_W_law_806 : kPush TT cl6 X mi_W_law 806 2 (.int (Int32.ofInt (100000))) := k_ldc (index := 139) d_W_law_806 t_6_146
theorem s_W_law_812 : kPush TT cl6 X mi_W_law 812 2 (.int (Int32.ofInt (-900003))) := k_ldc (index := 27) d_W_law_812 t_2_223
theorem s_W_law_851 : kCall TT cl6 X mi_W_law 851 3 mi_W_prove 1 5 0 := k_static (index := 180) d_W_law_851 cs_W_prove t_5_169 t_5_170
theorem s_W_law_877 : kCall TT cl6 X mi_W_law 877 3 mi_W_prove 1 5 0 := k_static (index := 180) d_W_law_877 cs_W_prove t_5_169 t_5_170
theorem s_W_law_1305 : kCall TT cl6 X mi_W_law 1305 3 mi_W_reached 1 1 0 := k_static (index := 152) d_W_law_1305 cs_W_reached t_5_230 t_5_231
theorem s_W_law_1314 : kCall TT cl6 X mi_W_law 1314 3 mi_W_difference 1 1 0 := k_static (index := 188) d_W_law_1314 cs_W_difference t_5_238 t_5_239
theorem s_W_law_1327 : kCall TT cl6 X mi_W_law 1327 3 mi_W_trace 1 2 0 := k_static (index := 190) d_W_law_1327 cs_W_trace t_6_5 t_6_6
theorem s_W_law_1330 : kPush TT cl6 X mi_W_law 1330 2 (.int (Int32.ofInt (-900002))) := k_ldc (index := 20) d_W_law_1330 t_2_222
theorem s_W_law_1337 : kCall TT cl6 X mi_W_law 1337 3 mi_W_trace 1 2 0 := k_static (index := 190) d_W_law_1337 cs_W_trace t_6_5 t_6_6
theorem s_W_law_1340 : kPush TT cl6 X mi_W_law 1340 2 (.int (Int32.ofInt (-900002))) := k_ldc (index := 20) d_W_law_1340 t_2_222
theorem s_W_law_1397 : kCall TT cl6 X mi_W_law 1397 3 mi_W_trace 1 2 0 := k_static (index := 190) d_W_law_1397 cs_W_trace t_6_5 t_6_6
theorem s_W_law_1592 : kCall TT cl6 X mi_W_law 1592 3 mi_W_isInductive 1 2 0 := k_static (index := 192) d_W_law_1592 cs_W_isInductive t_6_26 t_6_27
theorem s_W_law_1644 : kCall TT cl6 X mi_W_law 1644 3 mi_W_in 1 3 0 := k_static (index := 104) d_W_law_1644 cs_W_in t_6_64 t_6_65
theorem s_W_law_1804 : kCall TT cl6 X mi_W_law 1804 3 mi_W_isInvariant 1 2 0 := k_static (index := 194) d_W_law_1804 cs_W_isInvariant t_6_49 t_6_50
theorem s_W_law_1839 : kCall TT cl6 X mi_W_law 1839 3 mi_W_in 1 3 0 := k_static (index := 104) d_W_law_1839 cs_W_in t_6_64 t_6_65
theorem s_W_law_1851 : kCall TT cl6 X mi_W_law 1851 3 mi_W_in 1 3 0 := k_static (index := 104) d_W_law_1851 cs_W_in t_6_64 t_6_65
theorem s_W_law_1946 : kCall TT cl6 X mi_W_law 1946 3 mi_W_run 1 4 0 := k_static (index := 196) d_W_law_1946 cs_W_run t_6_14 t_6_15
theorem s_W_law_1962 : kPush TT cl6 X mi_W_law 1962 2 (.int (Int32.ofInt (-900001))) := k_ldc (index := 17) d_W_law_1962 t_2_221
theorem s_W_law_1973 : kCall TT cl6 X mi_W_law 1973 3 mi_W_run 1 4 0 := k_static (index := 196) d_W_law_1973 cs_W_run t_6_14 t_6_15
theorem s_W_law_1976 : kPush TT cl6 X mi_W_law 1976 2 (.int (Int32.ofInt (-900001))) := k_ldc (index := 17) d_W_law_1976 t_2_221
theorem s_W_law_1984 : kCall TT cl6 X mi_W_law 1984 3 mi_W_isInductive 1 2 0 := k_static (index := 192) d_W_law_1984 cs_W_isInductive t_6_26 t_6_27
theorem s_W_law_1987 : kPush TT cl6 X mi_W_law 1987 2 (.int (Int32.ofInt (-900001))) := k_ldc (index := 17) d_W_law_1987 t_2_221
theorem s_W_law_1993 : kCall TT cl6 X mi_W_law 1993 3 mi_M_isSound 2 1 0 := k_virtual (index := 198) d_W_law_1993 cs_M_isSound rfl rfl t_1_112 t_1_113 t_1_114
end RW11
