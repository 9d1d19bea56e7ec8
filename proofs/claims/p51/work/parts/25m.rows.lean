section RW12
variable {X : XT} {L9 : Nat} {xs : Nat → Int32}
theorem d_W_isInductive_0 : decode mi_W_isInductive.2.1 0 = .ok (.aload_n 0, 1) := by decide +kernel
theorem d_W_isInductive_1 : decode mi_W_isInductive.2.1 1 = .ok (.iload_n 1, 1) := by decide +kernel
theorem d_W_isInductive_2 : decode mi_W_isInductive.2.1 2 = .ok (.invokevirtual 89, 3) := by decide +kernel
theorem d_W_isInductive_5 : decode mi_W_isInductive.2.1 5 = .ok (.ifCond .eq (7), 3) := by decide +kernel
theorem d_W_isInductive_8 : decode mi_W_isInductive.2.1 8 = .ok (.iconst (1), 1) := by decide +kernel
theorem d_W_isInductive_9 : decode mi_W_isInductive.2.1 9 = .ok (.goto (4), 3) := by decide +kernel
theorem d_W_isInductive_12 : decode mi_W_isInductive.2.1 12 = .ok (.iconst (0), 1) := by decide +kernel
theorem d_W_isInductive_13 : decode mi_W_isInductive.2.1 13 = .ok (.ireturn, 1) := by decide +kernel
theorem d_W_isInductive_14 : decode mi_W_isInductive.2.1 14 = .ok (.astore_n 2, 1) := by decide +kernel
theorem d_W_isInductive_15 : decode mi_W_isInductive.2.1 15 = .ok (.ldc 17, 2) := by decide +kernel
theorem d_W_isInductive_17 : decode mi_W_isInductive.2.1 17 = .ok (.ireturn, 1) := by decide +kernel
theorem d_W_isInductive_18 : decode mi_W_isInductive.2.1 18 = .ok (.astore_n 2, 1) := by decide +kernel
theorem d_W_isInductive_19 : decode mi_W_isInductive.2.1 19 = .ok (.ldc 20, 2) := by decide +kernel
theorem d_W_isInductive_21 : decode mi_W_isInductive.2.1 21 = .ok (.ireturn, 1) := by decide +kernel
theorem s_W_isInductive_2 : kCall TT cl6 X mi_W_isInductive 2 3 mi_M_isInductive 2 2 0 := k_virtual (index := 89) d_W_isInductive_2 cs_M_isInductive rfl rfl t_6_29 t_6_30 t_6_31
theorem s_W_isInductive_15 : kPush TT cl6 X mi_W_isInductive 15 2 (.int (Int32.ofInt (-900001))) := k_ldc (index := 17) d_W_isInductive_15 t_2_221
theorem s_W_isInductive_19 : kPush TT cl6 X mi_W_isInductive 19 2 (.int (Int32.ofInt (-900002))) := k_ldc (index := 20) d_W_isInductive_19 t_2_222
theorem d_W_isInvariant_0 : decode mi_W_isInvariant.2.1 0 = .ok (.aload_n 0, 1) := by decide +kernel
theorem d_W_isInvariant_1 : decode mi_W_isInvariant.2.1 1 = .ok (.iload_n 1, 1) := by decide +kernel
theorem d_W_isInvariant_2 : decode mi_W_isInvariant.2.1 2 = .ok (.invokevirtual 93, 3) := by decide +kernel
theorem d_W_isInvariant_5 : decode mi_W_isInvariant.2.1 5 = .ok (.ifCond .eq (7), 3) := by decide +kernel
theorem d_W_isInvariant_8 : decode mi_W_isInvariant.2.1 8 = .ok (.iconst (1), 1) := by decide +kernel
theorem d_W_isInvariant_9 : decode mi_W_isInvariant.2.1 9 = .ok (.goto (4), 3) := by decide +kernel
theorem d_W_isInvariant_12 : decode mi_W_isInvariant.2.1 12 = .ok (.iconst (0), 1) := by decide +kernel
theorem d_W_isInvariant_13 : decode mi_W_isInvariant.2.1 13 = .ok (.ireturn, 1) := by decide +kernel
theorem d_W_isInvariant_14 : decode mi_W_isInvariant.2.1 14 = .ok (.astore_n 2, 1) := by decide +kernel
theorem d_W_isInvariant_15 : decode mi_W_isInvariant.2.1 15 = .ok (.ldc 17, 2) := by decide +kernel
theorem d_W_isInvariant_17 : decode mi_W_isInvariant.2.1 17 = .ok (.ireturn, 1) := by decide +kernel
theorem d_W_isInvariant_18 : decode mi_W_isInvariant.2.1 18 = .ok (.astore_n 2, 1) := by decide +kernel
theorem d_W_isInvariant_19 : decode mi_W_isInvariant.2.1 19 = .ok (.ldc 20, 2) := by decide +kernel
theorem d_W_isInvariant_21 : decode mi_W_isInvariant.2.1 21 = .ok (.ireturn, 1) := by decide +kernel
theorem s_W_isInvariant_2 : kCall TT cl6 X mi_W_isInvariant 2 3 mi_M_isInvariant 2 2 0 := k_virtual (index := 93) d_W_isInvariant_2 cs_M_isInvariant rfl rfl t_6_52 t_6_53 t_6_54
theorem s_W_isInvariant_15 : kPush TT cl6 X mi_W_isInvariant 15 2 (.int (Int32.ofInt (-900001))) := k_ldc (index := 17) d_W_isInvariant_15 t_2_221
theorem s_W_isInvariant_19 : kPush TT cl6 X mi_W_isInvariant 19 2 (.int (Int32.ofInt (-900002))) := k_ldc (index := 20) d_W_isInvariant_19 t_2_222
theorem d_W_leaves_0 : decode mi_W_leaves.2.1 0 = .ok (.aload_n 0, 1) := by decide +kernel
theorem d_W_leaves_1 : decode mi_W_leaves.2.1 1 = .ok (.arraylength, 1) := by decide +kernel
theorem d_W_leaves_2 : decode mi_W_leaves.2.1 2 = .ok (.newarray .int, 2) := by decide +kernel
theorem d_W_leaves_4 : decode mi_W_leaves.2.1 4 = .ok (.astore 8, 2) := by decide +kernel
theorem d_W_leaves_6 : decode mi_W_leaves.2.1 6 = .ok (.iconst (0), 1) := by decide +kernel
theorem d_W_leaves_7 : decode mi_W_leaves.2.1 7 = .ok (.istore 9, 2) := by decide +kernel
theorem d_W_leaves_9 : decode mi_W_leaves.2.1 9 = .ok (.iload 9, 2) := by decide +kernel
theorem d_W_leaves_11 : decode mi_W_leaves.2.1 11 = .ok (.aload_n 0, 1) := by decide +kernel
theorem d_W_leaves_12 : decode mi_W_leaves.2.1 12 = .ok (.arraylength, 1) := by decide +kernel
theorem d_W_leaves_13 : decode mi_W_leaves.2.1 13 = .ok (.if_icmp .ge (68), 3) := by decide +kernel
theorem d_W_leaves_16 : decode mi_W_leaves.2.1 16 = .ok (.aload 8, 2) := by decide +kernel
theorem d_W_leaves_18 : decode mi_W_leaves.2.1 18 = .ok (.iload 9, 2) := by decide +kernel
theorem d_W_leaves_20 : decode mi_W_leaves.2.1 20 = .ok (.iload 9, 2) := by decide +kernel
theorem d_W_leaves_22 : decode mi_W_leaves.2.1 22 = .ok (.iload_n 1, 1) := by decide +kernel
theorem d_W_leaves_23 : decode mi_W_leaves.2.1 23 = .ok (.if_icmp .ge (24), 3) := by decide +kernel
theorem d_W_leaves_26 : decode mi_W_leaves.2.1 26 = .ok (.iload 9, 2) := by decide +kernel
theorem d_W_leaves_28 : decode mi_W_leaves.2.1 28 = .ok (.iload 7, 2) := by decide +kernel
theorem d_W_leaves_30 : decode mi_W_leaves.2.1 30 = .ok (.if_icmp .ge (13), 3) := by decide +kernel
theorem d_W_leaves_33 : decode mi_W_leaves.2.1 33 = .ok (.iload 6, 2) := by decide +kernel
theorem d_W_leaves_35 : decode mi_W_leaves.2.1 35 = .ok (.iload 9, 2) := by decide +kernel
theorem d_W_leaves_37 : decode mi_W_leaves.2.1 37 = .ok (.ishr, 1) := by decide +kernel
theorem d_W_leaves_38 : decode mi_W_leaves.2.1 38 = .ok (.iconst (1), 1) := by decide +kernel
theorem d_W_leaves_39 : decode mi_W_leaves.2.1 39 = .ok (.iand, 1) := by decide +kernel
theorem d_W_leaves_40 : decode mi_W_leaves.2.1 40 = .ok (.goto (34), 3) := by decide +kernel
theorem d_W_leaves_43 : decode mi_W_leaves.2.1 43 = .ok (.iconst (2), 1) := by decide +kernel
theorem d_W_leaves_44 : decode mi_W_leaves.2.1 44 = .ok (.goto (30), 3) := by decide +kernel
theorem d_W_leaves_47 : decode mi_W_leaves.2.1 47 = .ok (.aload_n 0, 1) := by decide +kernel
theorem d_W_leaves_48 : decode mi_W_leaves.2.1 48 = .ok (.iload 9, 2) := by decide +kernel
theorem d_W_leaves_50 : decode mi_W_leaves.2.1 50 = .ok (.aaload, 1) := by decide +kernel
theorem d_W_leaves_51 : decode mi_W_leaves.2.1 51 = .ok (.iconst (0), 1) := by decide +kernel
theorem d_W_leaves_52 : decode mi_W_leaves.2.1 52 = .ok (.iaload, 1) := by decide +kernel
theorem d_W_leaves_53 : decode mi_W_leaves.2.1 53 = .ok (.aload 8, 2) := by decide +kernel
theorem d_W_leaves_55 : decode mi_W_leaves.2.1 55 = .ok (.aload_n 0, 1) := by decide +kernel
theorem d_W_leaves_56 : decode mi_W_leaves.2.1 56 = .ok (.iload 9, 2) := by decide +kernel
theorem d_W_leaves_58 : decode mi_W_leaves.2.1 58 = .ok (.aaload, 1) := by decide +kernel
theorem d_W_leaves_59 : decode mi_W_leaves.2.1 59 = .ok (.iconst (2), 1) := by decide +kernel
theorem d_W_leaves_60 : decode mi_W_leaves.2.1 60 = .ok (.iaload, 1) := by decide +kernel
theorem d_W_leaves_61 : decode mi_W_leaves.2.1 61 = .ok (.iaload, 1) := by decide +kernel
theorem d_W_leaves_62 : decode mi_W_leaves.2.1 62 = .ok (.aload 8, 2) := by decide +kernel
theorem d_W_leaves_64 : decode mi_W_leaves.2.1 64 = .ok (.aload_n 0, 1) := by decide +kernel
theorem d_W_leaves_65 : decode mi_W_leaves.2.1 65 = .ok (.iload 9, 2) := by decide +kernel
theorem d_W_leaves_67 : decode mi_W_leaves.2.1 67 = .ok (.aaload, 1) := by decide +kernel
theorem d_W_leaves_68 : decode mi_W_leaves.2.1 68 = .ok (.iconst (3), 1) := by decide +kernel
theorem d_W_leaves_69 : decode mi_W_leaves.2.1 69 = .ok (.iaload, 1) := by decide +kernel
theorem d_W_leaves_70 : decode mi_W_leaves.2.1 70 = .ok (.iaload, 1) := by decide +kernel
theorem d_W_leaves_71 : decode mi_W_leaves.2.1 71 = .ok (.invokestatic 136, 3) := by decide +kernel
theorem d_W_leaves_74 : decode mi_W_leaves.2.1 74 = .ok (.iastore, 1) := by decide +kernel
theorem d_W_leaves_75 : decode mi_W_leaves.2.1 75 = .ok (.iinc 9 (1), 3) := by decide +kernel
theorem d_W_leaves_78 : decode mi_W_leaves.2.1 78 = .ok (.goto (-69), 3) := by decide +kernel
theorem d_W_leaves_81 : decode mi_W_leaves.2.1 81 = .ok (.aload 8, 2) := by decide +kernel
theorem d_W_leaves_83 : decode mi_W_leaves.2.1 83 = .ok (.iload_n 3, 1) := by decide +kernel
theorem d_W_leaves_84 : decode mi_W_leaves.2.1 84 = .ok (.iaload, 1) := by decide +kernel
theorem d_W_leaves_85 : decode mi_W_leaves.2.1 85 = .ok (.iconst (2), 1) := by decide +kernel
theorem d_W_leaves_86 : decode mi_W_leaves.2.1 86 = .ok (.if_icmp .ne (7), 3) := by decide +kernel
theorem d_W_leaves_89 : decode mi_W_leaves.2.1 89 = .ok (.iconst (2), 1) := by decide +kernel
theorem d_W_leaves_90 : decode mi_W_leaves.2.1 90 = .ok (.goto (10), 3) := by decide +kernel
theorem d_W_leaves_93 : decode mi_W_leaves.2.1 93 = .ok (.aload 8, 2) := by decide +kernel
theorem d_W_leaves_95 : decode mi_W_leaves.2.1 95 = .ok (.iload_n 3, 1) := by decide +kernel
theorem d_W_leaves_96 : decode mi_W_leaves.2.1 96 = .ok (.iaload, 1) := by decide +kernel
theorem d_W_leaves_97 : decode mi_W_leaves.2.1 97 = .ok (.iload 4, 2) := by decide +kernel
theorem d_W_leaves_99 : decode mi_W_leaves.2.1 99 = .ok (.ixor, 1) := by decide +kernel
theorem d_W_leaves_100 : decode mi_W_leaves.2.1 100 = .ok (.istore 9, 2) := by decide +kernel
theorem d_W_leaves_102 : decode mi_W_leaves.2.1 102 = .ok (.iload 5, 2) := by decide +kernel
theorem d_W_leaves_104 : decode mi_W_leaves.2.1 104 = .ok (.ifCond .lt (11), 3) := by decide +kernel
theorem d_W_leaves_107 : decode mi_W_leaves.2.1 107 = .ok (.aload 8, 2) := by decide +kernel
theorem d_W_leaves_109 : decode mi_W_leaves.2.1 109 = .ok (.iload 5, 2) := by decide +kernel
theorem d_W_leaves_111 : decode mi_W_leaves.2.1 111 = .ok (.iaload, 1) := by decide +kernel
theorem d_W_leaves_112 : decode mi_W_leaves.2.1 112 = .ok (.ifCond .eq (20), 3) := by decide +kernel
theorem d_W_leaves_115 : decode mi_W_leaves.2.1 115 = .ok (.aload 8, 2) := by decide +kernel
theorem d_W_leaves_117 : decode mi_W_leaves.2.1 117 = .ok (.iload_n 2, 1) := by decide +kernel
theorem d_W_leaves_118 : decode mi_W_leaves.2.1 118 = .ok (.iaload, 1) := by decide +kernel
theorem d_W_leaves_119 : decode mi_W_leaves.2.1 119 = .ok (.iconst (2), 1) := by decide +kernel
theorem d_W_leaves_120 : decode mi_W_leaves.2.1 120 = .ok (.if_icmp .eq (14), 3) := by decide +kernel
theorem d_W_leaves_123 : decode mi_W_leaves.2.1 123 = .ok (.aload 8, 2) := by decide +kernel
theorem d_W_leaves_125 : decode mi_W_leaves.2.1 125 = .ok (.iload_n 2, 1) := by decide +kernel
theorem d_W_leaves_126 : decode mi_W_leaves.2.1 126 = .ok (.iaload, 1) := by decide +kernel
theorem d_W_leaves_127 : decode mi_W_leaves.2.1 127 = .ok (.iload 9, 2) := by decide +kernel
theorem d_W_leaves_129 : decode mi_W_leaves.2.1 129 = .ok (.if_icmp .ne (5), 3) := by decide +kernel
theorem d_W_leaves_132 : decode mi_W_leaves.2.1 132 = .ok (.iconst (1), 1) := by decide +kernel
theorem d_W_leaves_133 : decode mi_W_leaves.2.1 133 = .ok (.ireturn, 1) := by decide +kernel
theorem d_W_leaves_134 : decode mi_W_leaves.2.1 134 = .ok (.iload 7, 2) := by decide +kernel
theorem d_W_leaves_136 : decode mi_W_leaves.2.1 136 = .ok (.iload_n 1, 1) := by decide +kernel
theorem d_W_leaves_137 : decode mi_W_leaves.2.1 137 = .ok (.if_icmp .ne (9), 3) := by decide +kernel
theorem d_W_leaves_140 : decode mi_W_leaves.2.1 140 = .ok (.iload 6, 2) := by decide +kernel
theorem d_W_leaves_142 : decode mi_W_leaves.2.1 142 = .ok (.ldc 139, 2) := by decide +kernel
theorem d_W_leaves_144 : decode mi_W_leaves.2.1 144 = .ok (.isub, 1) := by decide +kernel
theorem d_W_leaves_145 : decode mi_W_leaves.2.1 145 = .ok (.ireturn, 1) := by decide +kernel
theorem d_W_leaves_146 : decode mi_W_leaves.2.1 146 = .ok (.aload_n 0, 1) := by decide +kernel
theorem d_W_leaves_147 : decode mi_W_leaves.2.1 147 = .ok (.iload_n 1, 1) := by decide +kernel
theorem d_W_leaves_148 : decode mi_W_leaves.2.1 148 = .ok (.iload_n 2, 1) := by decide +kernel
theorem d_W_leaves_149 : decode mi_W_leaves.2.1 149 = .ok (.iload_n 3, 1) := by decide +kernel
theorem d_W_leaves_150 : decode mi_W_leaves.2.1 150 = .ok (.iload 4, 2) := by decide +kernel
theorem d_W_leaves_152 : decode mi_W_leaves.2.1 152 = .ok (.iload 5, 2) := by decide +kernel
theorem d_W_leaves_154 : decode mi_W_leaves.2.1 154 = .ok (.iload 6, 2) := by decide +kernel
theorem d_W_leaves_156 : decode mi_W_leaves.2.1 156 = .ok (.iload 7, 2) := by decide +kernel
theorem d_W_leaves_158 : decode mi_W_leaves.2.1 158 = .ok (.iconst (1), 1) := by decide +kernel
theorem d_W_leaves_159 : decode mi_W_leaves.2.1 159 = .ok (.iadd, 1) := by decide +kernel
theorem d_W_leaves_160 : decode mi_W_leaves.2.1 160 = .ok (.invokestatic 140, 3) := by decide +kernel
theorem d_W_leaves_163 : decode mi_W_leaves.2.1 163 = .ok (.istore 10, 2) := by decide +kernel
theorem d_W_leaves_165 : decode mi_W_leaves.2.1 165 = .ok (.iload 10, 2) := by decide +kernel
theorem d_W_leaves_167 : decode mi_W_leaves.2.1 167 = .ok (.ifCond .ge (7), 3) := by decide +kernel
theorem d_W_leaves_170 : decode mi_W_leaves.2.1 170 = .ok (.iconst (0), 1) := by decide +kernel
theorem d_W_leaves_171 : decode mi_W_leaves.2.1 171 = .ok (.goto (25), 3) := by decide +kernel
theorem d_W_leaves_174 : decode mi_W_leaves.2.1 174 = .ok (.aload_n 0, 1) := by decide +kernel
theorem d_W_leaves_175 : decode mi_W_leaves.2.1 175 = .ok (.iload_n 1, 1) := by decide +kernel
theorem d_W_leaves_176 : decode mi_W_leaves.2.1 176 = .ok (.iload_n 2, 1) := by decide +kernel
theorem d_W_leaves_177 : decode mi_W_leaves.2.1 177 = .ok (.iload_n 3, 1) := by decide +kernel
theorem d_W_leaves_178 : decode mi_W_leaves.2.1 178 = .ok (.iload 4, 2) := by decide +kernel
theorem d_W_leaves_180 : decode mi_W_leaves.2.1 180 = .ok (.iload 5, 2) := by decide +kernel
theorem d_W_leaves_182 : decode mi_W_leaves.2.1 182 = .ok (.iload 6, 2) := by decide +kernel
theorem d_W_leaves_184 : decode mi_W_leaves.2.1 184 = .ok (.iconst (1), 1) := by decide +kernel
theorem d_W_leaves_185 : decode mi_W_leaves.2.1 185 = .ok (.iload 7, 2) := by decide +kernel
theorem d_W_leaves_187 : decode mi_W_leaves.2.1 187 = .ok (.ishl, 1) := by decide +kernel
theorem d_W_leaves_188 : decode mi_W_leaves.2.1 188 = .ok (.ior, 1) := by decide +kernel
theorem d_W_leaves_189 : decode mi_W_leaves.2.1 189 = .ok (.iload 7, 2) := by decide +kernel
theorem d_W_leaves_191 : decode mi_W_leaves.2.1 191 = .ok (.iconst (1), 1) := by decide +kernel
theorem d_W_leaves_192 : decode mi_W_leaves.2.1 192 = .ok (.iadd, 1) := by decide +kernel
theorem d_W_leaves_193 : decode mi_W_leaves.2.1 193 = .ok (.invokestatic 140, 3) := by decide +kernel
theorem d_W_leaves_196 : decode mi_W_leaves.2.1 196 = .ok (.istore 11, 2) := by decide +kernel
theorem d_W_leaves_198 : decode mi_W_leaves.2.1 198 = .ok (.iload 10, 2) := by decide +kernel
theorem d_W_leaves_200 : decode mi_W_leaves.2.1 200 = .ok (.ifCond .ge (8), 3) := by decide +kernel
theorem d_W_leaves_203 : decode mi_W_leaves.2.1 203 = .ok (.iload 10, 2) := by decide +kernel
theorem d_W_leaves_205 : decode mi_W_leaves.2.1 205 = .ok (.goto (18), 3) := by decide +kernel
theorem d_W_leaves_208 : decode mi_W_leaves.2.1 208 = .ok (.iload 11, 2) := by decide +kernel
theorem d_W_leaves_210 : decode mi_W_leaves.2.1 210 = .ok (.ifCond .ge (8), 3) := by decide +kernel
theorem d_W_leaves_213 : decode mi_W_leaves.2.1 213 = .ok (.iload 11, 2) := by decide +kernel
theorem d_W_leaves_215 : decode mi_W_leaves.2.1 215 = .ok (.goto (8), 3) := by decide +kernel
theorem d_W_leaves_218 : decode mi_W_leaves.2.1 218 = .ok (.iload 10, 2) := by decide +kernel
theorem d_W_leaves_220 : decode mi_W_leaves.2.1 220 = .ok (.iload 11, 2) := by decide +kernel
theorem d_W_leaves_222 : decode mi_W_leaves.2.1 222 = .ok (.iadd, 1) := by decide +kernel
theorem d_W_leaves_223 : decode mi_W_leaves.2.1 223 = .ok (.ireturn, 1) := by decide +kernel
theorem s_W_leaves_71 : kCall TT cl6 X mi_W_leaves 71 3 mi_W_told 1 3 0 := k_static (index := 136) d_W_leaves_71 cs_W_told t_6_143 t_6_144
theorem s_W_leaves_142 : kPush TT cl6 X mi_W_leaves 142 2 (.int (Int32.ofInt (100000))) := k_ldc (index := 139) d_W_leaves_142 t_6_146
theorem s_W_leaves_160 : kCall TT cl6 X mi_W_leaves 160 3 mi_W_leaves 1 8 0 := k_static (index := 140) d_W_leaves_160 cs_W_leaves t_6_140 t_6_141
theorem s_W_leaves_193 : kCall TT cl6 X mi_W_leaves 193 3 mi_W_leaves 1 8 0 := k_static (index := 140) d_W_leaves_193 cs_W_leaves t_6_140 t_6_141
theorem d_W_lineBy_0 : decode mi_W_lineBy.2.1 0 = .ok (.iload_n 3, 1) := by decide +kernel
theorem d_W_lineBy_1 : decode mi_W_lineBy.2.1 1 = .ok (.iload_n 1, 1) := by decide +kernel
theorem d_W_lineBy_2 : decode mi_W_lineBy.2.1 2 = .ok (.irem, 1) := by decide +kernel
theorem d_W_lineBy_3 : decode mi_W_lineBy.2.1 3 = .ok (.istore 4, 2) := by decide +kernel
theorem d_W_lineBy_5 : decode mi_W_lineBy.2.1 5 = .ok (.aload_n 0, 1) := by decide +kernel
theorem d_W_lineBy_6 : decode mi_W_lineBy.2.1 6 = .ok (.iload 4, 2) := by decide +kernel
theorem d_W_lineBy_8 : decode mi_W_lineBy.2.1 8 = .ok (.aaload, 1) := by decide +kernel
theorem d_W_lineBy_9 : decode mi_W_lineBy.2.1 9 = .ok (.iconst (1), 1) := by decide +kernel
theorem d_W_lineBy_10 : decode mi_W_lineBy.2.1 10 = .ok (.iaload, 1) := by decide +kernel
theorem d_W_lineBy_11 : decode mi_W_lineBy.2.1 11 = .ok (.iconst (2), 1) := by decide +kernel
theorem d_W_lineBy_12 : decode mi_W_lineBy.2.1 12 = .ok (.if_icmp .eq (24), 3) := by decide +kernel
theorem d_W_lineBy_15 : decode mi_W_lineBy.2.1 15 = .ok (.aload_n 0, 1) := by decide +kernel
theorem d_W_lineBy_16 : decode mi_W_lineBy.2.1 16 = .ok (.iload 4, 2) := by decide +kernel
theorem d_W_lineBy_18 : decode mi_W_lineBy.2.1 18 = .ok (.aaload, 1) := by decide +kernel
theorem d_W_lineBy_19 : decode mi_W_lineBy.2.1 19 = .ok (.iconst (1), 1) := by decide +kernel
theorem d_W_lineBy_20 : decode mi_W_lineBy.2.1 20 = .ok (.iaload, 1) := by decide +kernel
theorem d_W_lineBy_21 : decode mi_W_lineBy.2.1 21 = .ok (.iload_n 2, 1) := by decide +kernel
theorem d_W_lineBy_22 : decode mi_W_lineBy.2.1 22 = .ok (.if_icmp .eq (14), 3) := by decide +kernel
theorem d_W_lineBy_25 : decode mi_W_lineBy.2.1 25 = .ok (.iload 4, 2) := by decide +kernel
theorem d_W_lineBy_27 : decode mi_W_lineBy.2.1 27 = .ok (.iconst (1), 1) := by decide +kernel
theorem d_W_lineBy_28 : decode mi_W_lineBy.2.1 28 = .ok (.iadd, 1) := by decide +kernel
theorem d_W_lineBy_29 : decode mi_W_lineBy.2.1 29 = .ok (.iload_n 1, 1) := by decide +kernel
theorem d_W_lineBy_30 : decode mi_W_lineBy.2.1 30 = .ok (.irem, 1) := by decide +kernel
theorem d_W_lineBy_31 : decode mi_W_lineBy.2.1 31 = .ok (.istore 4, 2) := by decide +kernel
theorem d_W_lineBy_33 : decode mi_W_lineBy.2.1 33 = .ok (.goto (-28), 3) := by decide +kernel
theorem d_W_lineBy_36 : decode mi_W_lineBy.2.1 36 = .ok (.iload 4, 2) := by decide +kernel
theorem d_W_lineBy_38 : decode mi_W_lineBy.2.1 38 = .ok (.ireturn, 1) := by decide +kernel
theorem d_W_literal_0 : decode mi_W_literal.2.1 0 = .ok (.aload_n 0, 1) := by decide +kernel
theorem d_W_literal_1 : decode mi_W_literal.2.1 1 = .ok (.iload_n 1, 1) := by decide +kernel
theorem d_W_literal_2 : decode mi_W_literal.2.1 2 = .ok (.invokevirtual 52, 3) := by decide +kernel
theorem d_W_literal_5 : decode mi_W_literal.2.1 5 = .ok (.ireturn, 1) := by decide +kernel
theorem d_W_literal_6 : decode mi_W_literal.2.1 6 = .ok (.astore_n 2, 1) := by decide +kernel
theorem d_W_literal_7 : decode mi_W_literal.2.1 7 = .ok (.ldc 17, 2) := by decide +kernel
theorem d_W_literal_9 : decode mi_W_literal.2.1 9 = .ok (.ireturn, 1) := by decide +kernel
theorem d_W_literal_10 : decode mi_W_literal.2.1 10 = .ok (.astore_n 2, 1) := by decide +kernel
theorem d_W_literal_11 : decode mi_W_literal.2.1 11 = .ok (.ldc 20, 2) := by decide +kernel
theorem d_W_literal_13 : decode mi_W_literal.2.1 13 = .ok (.ireturn, 1) := by decide +kernel
theorem s_W_literal_2 : kCall TT cl6 X mi_W_literal 2 3 mi_M_literal 2 2 0 := k_virtual (index := 52) d_W_literal_2 cs_M_literal rfl rfl t_5_133 t_5_134 t_5_135
theorem s_W_literal_7 : kPush TT cl6 X mi_W_literal 7 2 (.int (Int32.ofInt (-900001))) := k_ldc (index := 17) d_W_literal_7 t_2_221
theorem s_W_literal_11 : kPush TT cl6 X mi_W_literal 11 2 (.int (Int32.ofInt (-900002))) := k_ldc (index := 20) d_W_literal_11 t_2_222
theorem d_W_netsBy_0 : decode mi_W_netsBy.2.1 0 = .ok (.iload_n 1, 1) := by decide +kernel
theorem d_W_netsBy_1 : decode mi_W_netsBy.2.1 1 = .ok (.iconst (2), 1) := by decide +kernel
theorem d_W_netsBy_2 : decode mi_W_netsBy.2.1 2 = .ok (.iload_n 2, 1) := by decide +kernel
theorem d_W_netsBy_3 : decode mi_W_netsBy.2.1 3 = .ok (.imul, 1) := by decide +kernel
theorem d_W_netsBy_4 : decode mi_W_netsBy.2.1 4 = .ok (.iadd, 1) := by decide +kernel
theorem d_W_netsBy_5 : decode mi_W_netsBy.2.1 5 = .ok (.iload_n 3, 1) := by decide +kernel
theorem d_W_netsBy_6 : decode mi_W_netsBy.2.1 6 = .ok (.iadd, 1) := by decide +kernel
theorem d_W_netsBy_7 : decode mi_W_netsBy.2.1 7 = .ok (.anewarray 102, 3) := by decide +kernel
theorem d_W_netsBy_10 : decode mi_W_netsBy.2.1 10 = .ok (.astore 4, 2) := by decide +kernel
theorem d_W_netsBy_12 : decode mi_W_netsBy.2.1 12 = .ok (.iconst (0), 1) := by decide +kernel
theorem d_W_netsBy_13 : decode mi_W_netsBy.2.1 13 = .ok (.istore 5, 2) := by decide +kernel
theorem d_W_netsBy_15 : decode mi_W_netsBy.2.1 15 = .ok (.iload 5, 2) := by decide +kernel
theorem d_W_netsBy_17 : decode mi_W_netsBy.2.1 17 = .ok (.aload 4, 2) := by decide +kernel
theorem d_W_netsBy_19 : decode mi_W_netsBy.2.1 19 = .ok (.arraylength, 1) := by decide +kernel
theorem d_W_netsBy_20 : decode mi_W_netsBy.2.1 20 = .ok (.if_icmp .ge (199), 3) := by decide +kernel
theorem d_W_netsBy_23 : decode mi_W_netsBy.2.1 23 = .ok (.iload 5, 2) := by decide +kernel
theorem d_W_netsBy_25 : decode mi_W_netsBy.2.1 25 = .ok (.iload_n 1, 1) := by decide +kernel
theorem d_W_netsBy_26 : decode mi_W_netsBy.2.1 26 = .ok (.if_icmp .ge (31), 3) := by decide +kernel
theorem d_W_netsBy_29 : decode mi_W_netsBy.2.1 29 = .ok (.aload 4, 2) := by decide +kernel
theorem d_W_netsBy_31 : decode mi_W_netsBy.2.1 31 = .ok (.iload 5, 2) := by decide +kernel
theorem d_W_netsBy_33 : decode mi_W_netsBy.2.1 33 = .ok (.iconst (4), 1) := by decide +kernel
theorem d_W_netsBy_34 : decode mi_W_netsBy.2.1 34 = .ok (.newarray .int, 2) := by decide +kernel
theorem d_W_netsBy_36 : decode mi_W_netsBy.2.1 36 = .ok (.dup, 1) := by decide +kernel
theorem d_W_netsBy_37 : decode mi_W_netsBy.2.1 37 = .ok (.iconst (0), 1) := by decide +kernel
theorem d_W_netsBy_38 : decode mi_W_netsBy.2.1 38 = .ok (.bipush (105), 2) := by decide +kernel
theorem d_W_netsBy_40 : decode mi_W_netsBy.2.1 40 = .ok (.iastore, 1) := by decide +kernel
theorem d_W_netsBy_41 : decode mi_W_netsBy.2.1 41 = .ok (.dup, 1) := by decide +kernel
theorem d_W_netsBy_42 : decode mi_W_netsBy.2.1 42 = .ok (.iconst (1), 1) := by decide +kernel
theorem d_W_netsBy_43 : decode mi_W_netsBy.2.1 43 = .ok (.iconst (2), 1) := by decide +kernel
theorem d_W_netsBy_44 : decode mi_W_netsBy.2.1 44 = .ok (.iastore, 1) := by decide +kernel
theorem d_W_netsBy_45 : decode mi_W_netsBy.2.1 45 = .ok (.dup, 1) := by decide +kernel
theorem d_W_netsBy_46 : decode mi_W_netsBy.2.1 46 = .ok (.iconst (2), 1) := by decide +kernel
theorem d_W_netsBy_47 : decode mi_W_netsBy.2.1 47 = .ok (.iconst (0), 1) := by decide +kernel
theorem d_W_netsBy_48 : decode mi_W_netsBy.2.1 48 = .ok (.iastore, 1) := by decide +kernel
theorem d_W_netsBy_49 : decode mi_W_netsBy.2.1 49 = .ok (.dup, 1) := by decide +kernel
theorem d_W_netsBy_50 : decode mi_W_netsBy.2.1 50 = .ok (.iconst (3), 1) := by decide +kernel
theorem d_W_netsBy_51 : decode mi_W_netsBy.2.1 51 = .ok (.iconst (0), 1) := by decide +kernel
theorem d_W_netsBy_52 : decode mi_W_netsBy.2.1 52 = .ok (.iastore, 1) := by decide +kernel
theorem d_W_netsBy_53 : decode mi_W_netsBy.2.1 53 = .ok (.aastore, 1) := by decide +kernel
theorem d_W_netsBy_54 : decode mi_W_netsBy.2.1 54 = .ok (.goto (159), 3) := by decide +kernel
theorem d_W_netsBy_57 : decode mi_W_netsBy.2.1 57 = .ok (.iload 5, 2) := by decide +kernel
theorem d_W_netsBy_59 : decode mi_W_netsBy.2.1 59 = .ok (.iload_n 1, 1) := by decide +kernel
theorem d_W_netsBy_60 : decode mi_W_netsBy.2.1 60 = .ok (.iconst (2), 1) := by decide +kernel
theorem d_W_netsBy_61 : decode mi_W_netsBy.2.1 61 = .ok (.iload_n 2, 1) := by decide +kernel
theorem d_W_netsBy_62 : decode mi_W_netsBy.2.1 62 = .ok (.imul, 1) := by decide +kernel
theorem d_W_netsBy_63 : decode mi_W_netsBy.2.1 63 = .ok (.iadd, 1) := by decide +kernel
theorem d_W_netsBy_64 : decode mi_W_netsBy.2.1 64 = .ok (.if_icmp .ge (49), 3) := by decide +kernel
theorem d_W_netsBy_67 : decode mi_W_netsBy.2.1 67 = .ok (.aload 4, 2) := by decide +kernel
theorem d_W_netsBy_69 : decode mi_W_netsBy.2.1 69 = .ok (.iload 5, 2) := by decide +kernel
theorem d_W_netsBy_71 : decode mi_W_netsBy.2.1 71 = .ok (.iconst (4), 1) := by decide +kernel
theorem d_W_netsBy_72 : decode mi_W_netsBy.2.1 72 = .ok (.newarray .int, 2) := by decide +kernel
theorem d_W_netsBy_74 : decode mi_W_netsBy.2.1 74 = .ok (.dup, 1) := by decide +kernel
theorem d_W_netsBy_75 : decode mi_W_netsBy.2.1 75 = .ok (.iconst (0), 1) := by decide +kernel
theorem d_W_netsBy_76 : decode mi_W_netsBy.2.1 76 = .ok (.bipush (99), 2) := by decide +kernel
theorem d_W_netsBy_78 : decode mi_W_netsBy.2.1 78 = .ok (.iastore, 1) := by decide +kernel
theorem d_W_netsBy_79 : decode mi_W_netsBy.2.1 79 = .ok (.dup, 1) := by decide +kernel
theorem d_W_netsBy_80 : decode mi_W_netsBy.2.1 80 = .ok (.iconst (1), 1) := by decide +kernel
theorem d_W_netsBy_81 : decode mi_W_netsBy.2.1 81 = .ok (.iload 5, 2) := by decide +kernel
theorem d_W_netsBy_83 : decode mi_W_netsBy.2.1 83 = .ok (.iload_n 1, 1) := by decide +kernel
theorem d_W_netsBy_84 : decode mi_W_netsBy.2.1 84 = .ok (.isub, 1) := by decide +kernel
theorem d_W_netsBy_85 : decode mi_W_netsBy.2.1 85 = .ok (.iconst (2), 1) := by decide +kernel
theorem d_W_netsBy_86 : decode mi_W_netsBy.2.1 86 = .ok (.irem, 1) := by decide +kernel
theorem d_W_netsBy_87 : decode mi_W_netsBy.2.1 87 = .ok (.iastore, 1) := by decide +kernel
theorem d_W_netsBy_88 : decode mi_W_netsBy.2.1 88 = .ok (.dup, 1) := by decide +kernel
theorem d_W_netsBy_89 : decode mi_W_netsBy.2.1 89 = .ok (.iconst (2), 1) := by decide +kernel
theorem d_W_netsBy_90 : decode mi_W_netsBy.2.1 90 = .ok (.aload_n 0, 1) := by decide +kernel
theorem d_W_netsBy_91 : decode mi_W_netsBy.2.1 91 = .ok (.iconst (5), 1) := by decide +kernel
theorem d_W_netsBy_92 : decode mi_W_netsBy.2.1 92 = .ok (.iload 5, 2) := by decide +kernel
theorem d_W_netsBy_94 : decode mi_W_netsBy.2.1 94 = .ok (.iadd, 1) := by decide +kernel
theorem d_W_netsBy_95 : decode mi_W_netsBy.2.1 95 = .ok (.iconst (2), 1) := by decide +kernel
theorem d_W_netsBy_96 : decode mi_W_netsBy.2.1 96 = .ok (.invokestatic 104, 3) := by decide +kernel
theorem d_W_netsBy_99 : decode mi_W_netsBy.2.1 99 = .ok (.iastore, 1) := by decide +kernel
theorem d_W_netsBy_100 : decode mi_W_netsBy.2.1 100 = .ok (.dup, 1) := by decide +kernel
theorem d_W_netsBy_101 : decode mi_W_netsBy.2.1 101 = .ok (.iconst (3), 1) := by decide +kernel
theorem d_W_netsBy_102 : decode mi_W_netsBy.2.1 102 = .ok (.iload 5, 2) := by decide +kernel
theorem d_W_netsBy_104 : decode mi_W_netsBy.2.1 104 = .ok (.iload_n 1, 1) := by decide +kernel
theorem d_W_netsBy_105 : decode mi_W_netsBy.2.1 105 = .ok (.isub, 1) := by decide +kernel
theorem d_W_netsBy_106 : decode mi_W_netsBy.2.1 106 = .ok (.iconst (2), 1) := by decide +kernel
theorem d_W_netsBy_107 : decode mi_W_netsBy.2.1 107 = .ok (.idiv, 1) := by decide +kernel
theorem d_W_netsBy_108 : decode mi_W_netsBy.2.1 108 = .ok (.iastore, 1) := by decide +kernel
theorem d_W_netsBy_109 : decode mi_W_netsBy.2.1 109 = .ok (.aastore, 1) := by decide +kernel
theorem d_W_netsBy_110 : decode mi_W_netsBy.2.1 110 = .ok (.goto (103), 3) := by decide +kernel
theorem d_W_netsBy_113 : decode mi_W_netsBy.2.1 113 = .ok (.aload_n 0, 1) := by decide +kernel
theorem d_W_netsBy_114 : decode mi_W_netsBy.2.1 114 = .ok (.bipush (20), 2) := by decide +kernel
theorem d_W_netsBy_116 : decode mi_W_netsBy.2.1 116 = .ok (.iconst (4), 1) := by decide +kernel
theorem d_W_netsBy_117 : decode mi_W_netsBy.2.1 117 = .ok (.iload 5, 2) := by decide +kernel
theorem d_W_netsBy_119 : decode mi_W_netsBy.2.1 119 = .ok (.imul, 1) := by decide +kernel
theorem d_W_netsBy_120 : decode mi_W_netsBy.2.1 120 = .ok (.iadd, 1) := by decide +kernel
theorem d_W_netsBy_121 : decode mi_W_netsBy.2.1 121 = .ok (.iconst (2), 1) := by decide +kernel
theorem d_W_netsBy_122 : decode mi_W_netsBy.2.1 122 = .ok (.invokestatic 104, 3) := by decide +kernel
theorem d_W_netsBy_125 : decode mi_W_netsBy.2.1 125 = .ok (.istore 6, 2) := by decide +kernel
theorem d_W_netsBy_127 : decode mi_W_netsBy.2.1 127 = .ok (.aload 4, 2) := by decide +kernel
theorem d_W_netsBy_129 : decode mi_W_netsBy.2.1 129 = .ok (.iload 5, 2) := by decide +kernel
theorem d_W_netsBy_131 : decode mi_W_netsBy.2.1 131 = .ok (.iconst (4), 1) := by decide +kernel
theorem d_W_netsBy_132 : decode mi_W_netsBy.2.1 132 = .ok (.newarray .int, 2) := by decide +kernel
theorem d_W_netsBy_134 : decode mi_W_netsBy.2.1 134 = .ok (.dup, 1) := by decide +kernel
theorem d_W_netsBy_135 : decode mi_W_netsBy.2.1 135 = .ok (.iconst (0), 1) := by decide +kernel
theorem d_W_netsBy_136 : decode mi_W_netsBy.2.1 136 = .ok (.ldc 108, 2) := by decide +kernel
theorem d_W_netsBy_138 : decode mi_W_netsBy.2.1 138 = .ok (.aload_n 0, 1) := by decide +kernel
theorem d_W_netsBy_139 : decode mi_W_netsBy.2.1 139 = .ok (.bipush (21), 2) := by decide +kernel
theorem d_W_netsBy_141 : decode mi_W_netsBy.2.1 141 = .ok (.iconst (4), 1) := by decide +kernel
theorem d_W_netsBy_142 : decode mi_W_netsBy.2.1 142 = .ok (.iload 5, 2) := by decide +kernel
theorem d_W_netsBy_144 : decode mi_W_netsBy.2.1 144 = .ok (.imul, 1) := by decide +kernel
theorem d_W_netsBy_145 : decode mi_W_netsBy.2.1 145 = .ok (.iadd, 1) := by decide +kernel
theorem d_W_netsBy_146 : decode mi_W_netsBy.2.1 146 = .ok (.bipush (7), 2) := by decide +kernel
theorem d_W_netsBy_148 : decode mi_W_netsBy.2.1 148 = .ok (.invokestatic 104, 3) := by decide +kernel
theorem d_W_netsBy_151 : decode mi_W_netsBy.2.1 151 = .ok (.invokevirtual 110, 3) := by decide +kernel
theorem d_W_netsBy_154 : decode mi_W_netsBy.2.1 154 = .ok (.iastore, 1) := by decide +kernel
theorem d_W_netsBy_155 : decode mi_W_netsBy.2.1 155 = .ok (.dup, 1) := by decide +kernel
theorem d_W_netsBy_156 : decode mi_W_netsBy.2.1 156 = .ok (.iconst (1), 1) := by decide +kernel
theorem d_W_netsBy_157 : decode mi_W_netsBy.2.1 157 = .ok (.iload 6, 2) := by decide +kernel
theorem d_W_netsBy_159 : decode mi_W_netsBy.2.1 159 = .ok (.iastore, 1) := by decide +kernel
theorem d_W_netsBy_160 : decode mi_W_netsBy.2.1 160 = .ok (.dup, 1) := by decide +kernel
theorem d_W_netsBy_161 : decode mi_W_netsBy.2.1 161 = .ok (.iconst (2), 1) := by decide +kernel
theorem d_W_netsBy_162 : decode mi_W_netsBy.2.1 162 = .ok (.aload 4, 2) := by decide +kernel
theorem d_W_netsBy_164 : decode mi_W_netsBy.2.1 164 = .ok (.iload 5, 2) := by decide +kernel
theorem d_W_netsBy_166 : decode mi_W_netsBy.2.1 166 = .ok (.iload 6, 2) := by decide +kernel
theorem d_W_netsBy_168 : decode mi_W_netsBy.2.1 168 = .ok (.aload_n 0, 1) := by decide +kernel
theorem d_W_netsBy_169 : decode mi_W_netsBy.2.1 169 = .ok (.bipush (22), 2) := by decide +kernel
theorem d_W_netsBy_171 : decode mi_W_netsBy.2.1 171 = .ok (.iconst (4), 1) := by decide +kernel
theorem d_W_netsBy_172 : decode mi_W_netsBy.2.1 172 = .ok (.iload 5, 2) := by decide +kernel
theorem d_W_netsBy_174 : decode mi_W_netsBy.2.1 174 = .ok (.imul, 1) := by decide +kernel
theorem d_W_netsBy_175 : decode mi_W_netsBy.2.1 175 = .ok (.iadd, 1) := by decide +kernel
theorem d_W_netsBy_176 : decode mi_W_netsBy.2.1 176 = .ok (.sipush (1000), 3) := by decide +kernel
theorem d_W_netsBy_179 : decode mi_W_netsBy.2.1 179 = .ok (.invokestatic 104, 3) := by decide +kernel
theorem d_W_netsBy_182 : decode mi_W_netsBy.2.1 182 = .ok (.invokestatic 116, 3) := by decide +kernel
theorem d_W_netsBy_185 : decode mi_W_netsBy.2.1 185 = .ok (.iastore, 1) := by decide +kernel
theorem d_W_netsBy_186 : decode mi_W_netsBy.2.1 186 = .ok (.dup, 1) := by decide +kernel
theorem d_W_netsBy_187 : decode mi_W_netsBy.2.1 187 = .ok (.iconst (3), 1) := by decide +kernel
theorem d_W_netsBy_188 : decode mi_W_netsBy.2.1 188 = .ok (.aload 4, 2) := by decide +kernel
theorem d_W_netsBy_190 : decode mi_W_netsBy.2.1 190 = .ok (.iload 5, 2) := by decide +kernel
theorem d_W_netsBy_192 : decode mi_W_netsBy.2.1 192 = .ok (.iload 6, 2) := by decide +kernel
theorem d_W_netsBy_194 : decode mi_W_netsBy.2.1 194 = .ok (.aload_n 0, 1) := by decide +kernel
theorem d_W_netsBy_195 : decode mi_W_netsBy.2.1 195 = .ok (.bipush (23), 2) := by decide +kernel
theorem d_W_netsBy_197 : decode mi_W_netsBy.2.1 197 = .ok (.iconst (4), 1) := by decide +kernel
theorem d_W_netsBy_198 : decode mi_W_netsBy.2.1 198 = .ok (.iload 5, 2) := by decide +kernel
theorem d_W_netsBy_200 : decode mi_W_netsBy.2.1 200 = .ok (.imul, 1) := by decide +kernel
theorem d_W_netsBy_201 : decode mi_W_netsBy.2.1 201 = .ok (.iadd, 1) := by decide +kernel
theorem d_W_netsBy_202 : decode mi_W_netsBy.2.1 202 = .ok (.sipush (1000), 3) := by decide +kernel
theorem d_W_netsBy_205 : decode mi_W_netsBy.2.1 205 = .ok (.invokestatic 104, 3) := by decide +kernel
theorem d_W_netsBy_208 : decode mi_W_netsBy.2.1 208 = .ok (.invokestatic 116, 3) := by decide +kernel
theorem d_W_netsBy_211 : decode mi_W_netsBy.2.1 211 = .ok (.iastore, 1) := by decide +kernel
theorem d_W_netsBy_212 : decode mi_W_netsBy.2.1 212 = .ok (.aastore, 1) := by decide +kernel
theorem d_W_netsBy_213 : decode mi_W_netsBy.2.1 213 = .ok (.iinc 5 (1), 3) := by decide +kernel
theorem d_W_netsBy_216 : decode mi_W_netsBy.2.1 216 = .ok (.goto (-201), 3) := by decide +kernel
theorem d_W_netsBy_219 : decode mi_W_netsBy.2.1 219 = .ok (.aload 4, 2) := by decide +kernel
theorem d_W_netsBy_221 : decode mi_W_netsBy.2.1 221 = .ok (.areturn, 1) := by decide +kernel
theorem s_W_netsBy_96 : kCall TT cl6 X mi_W_netsBy 96 3 mi_W_in 1 3 0 := k_static (index := 104) d_W_netsBy_96 cs_W_in t_6_64 t_6_65
theorem s_W_netsBy_122 : kCall TT cl6 X mi_W_netsBy 122 3 mi_W_in 1 3 0 := k_static (index := 104) d_W_netsBy_122 cs_W_in t_6_64 t_6_65
theorem s_W_netsBy_148 : kCall TT cl6 X mi_W_netsBy 148 3 mi_W_in 1 3 0 := k_static (index := 104) d_W_netsBy_148 cs_W_in t_6_64 t_6_65
theorem s_W_netsBy_179 : kCall TT cl6 X mi_W_netsBy 179 3 mi_W_in 1 3 0 := k_static (index := 104) d_W_netsBy_179 cs_W_in t_6_64 t_6_65
theorem s_W_netsBy_182 : kCall TT cl6 X mi_W_netsBy 182 3 mi_W_lineBy 1 4 0 := k_static (index := 116) d_W_netsBy_182 cs_W_lineBy t_6_119 t_6_120
theorem s_W_netsBy_205 : kCall TT cl6 X mi_W_netsBy 205 3 mi_W_in 1 3 0 := k_static (index := 104) d_W_netsBy_205 cs_W_in t_6_64 t_6_65
theorem s_W_netsBy_208 : kCall TT cl6 X mi_W_netsBy 208 3 mi_W_lineBy 1 4 0 := k_static (index := 116) d_W_netsBy_208 cs_W_lineBy t_6_119 t_6_120
theorem d_W_output_0 : decode mi_W_output.2.1 0 = .ok (.aload_n 0, 1) := by decide +kernel
theorem d_W_output_1 : decode mi_W_output.2.1 1 = .ok (.iload_n 1, 1) := by decide +kernel
theorem d_W_output_2 : decode mi_W_output.2.1 2 = .ok (.iload_n 2, 1) := by decide +kernel
theorem d_W_output_3 : decode mi_W_output.2.1 3 = .ok (.invokevirtual 39, 3) := by decide +kernel
theorem d_W_output_6 : decode mi_W_output.2.1 6 = .ok (.ireturn, 1) := by decide +kernel
theorem d_W_output_7 : decode mi_W_output.2.1 7 = .ok (.astore_n 3, 1) := by decide +kernel
theorem d_W_output_8 : decode mi_W_output.2.1 8 = .ok (.ldc 17, 2) := by decide +kernel
theorem d_W_output_10 : decode mi_W_output.2.1 10 = .ok (.ireturn, 1) := by decide +kernel
theorem d_W_output_11 : decode mi_W_output.2.1 11 = .ok (.astore_n 3, 1) := by decide +kernel
theorem d_W_output_12 : decode mi_W_output.2.1 12 = .ok (.ldc 20, 2) := by decide +kernel
theorem d_W_output_14 : decode mi_W_output.2.1 14 = .ok (.ireturn, 1) := by decide +kernel
theorem d_W_output_15 : decode mi_W_output.2.1 15 = .ok (.astore_n 3, 1) := by decide +kernel
theorem d_W_output_16 : decode mi_W_output.2.1 16 = .ok (.ldc 27, 2) := by decide +kernel
theorem d_W_output_18 : decode mi_W_output.2.1 18 = .ok (.ireturn, 1) := by decide +kernel
theorem d_W_output_19 : decode mi_W_output.2.1 19 = .ok (.astore_n 3, 1) := by decide +kernel
theorem d_W_output_20 : decode mi_W_output.2.1 20 = .ok (.ldc 34, 2) := by decide +kernel
theorem d_W_output_22 : decode mi_W_output.2.1 22 = .ok (.ireturn, 1) := by decide +kernel
theorem s_W_output_3 : kCall TT cl6 X mi_W_output 3 3 mi_M_output 2 3 0 := k_virtual (index := 39) d_W_output_3 cs_M_output rfl rfl t_3_73 t_3_74 t_3_75
theorem s_W_output_8 : kPush TT cl6 X mi_W_output 8 2 (.int (Int32.ofInt (-900001))) := k_ldc (index := 17) d_W_output_8 t_2_221
theorem s_W_output_12 : kPush TT cl6 X mi_W_output 12 2 (.int (Int32.ofInt (-900002))) := k_ldc (index := 20) d_W_output_12 t_2_222
theorem s_W_output_16 : kPush TT cl6 X mi_W_output 16 2 (.int (Int32.ofInt (-900003))) := k_ldc (index := 27) d_W_output_16 t_2_223
theorem s_W_output_20 : kPush TT cl6 X mi_W_output 20 2 (.int (Int32.ofInt (-900004))) := k_ldc (index := 34) d_W_output_20 t_3_50
theorem d_W_pattern_0 : decode mi_W_pattern.2.1 0 = .ok (.aload_n 0, 1) := by decide +kernel
theorem d_W_pattern_1 : decode mi_W_pattern.2.1 1 = .ok (.iload_n 1, 1) := by decide +kernel
theorem d_W_pattern_2 : decode mi_W_pattern.2.1 2 = .ok (.invokevirtual 58, 3) := by decide +kernel
theorem d_W_pattern_5 : decode mi_W_pattern.2.1 5 = .ok (.ireturn, 1) := by decide +kernel
theorem d_W_pattern_6 : decode mi_W_pattern.2.1 6 = .ok (.astore_n 2, 1) := by decide +kernel
theorem d_W_pattern_7 : decode mi_W_pattern.2.1 7 = .ok (.ldc 17, 2) := by decide +kernel
theorem d_W_pattern_9 : decode mi_W_pattern.2.1 9 = .ok (.ireturn, 1) := by decide +kernel
theorem d_W_pattern_10 : decode mi_W_pattern.2.1 10 = .ok (.astore_n 2, 1) := by decide +kernel
theorem d_W_pattern_11 : decode mi_W_pattern.2.1 11 = .ok (.ldc 20, 2) := by decide +kernel
theorem d_W_pattern_13 : decode mi_W_pattern.2.1 13 = .ok (.ireturn, 1) := by decide +kernel
theorem d_W_pattern_14 : decode mi_W_pattern.2.1 14 = .ok (.astore_n 2, 1) := by decide +kernel
theorem d_W_pattern_15 : decode mi_W_pattern.2.1 15 = .ok (.ldc 27, 2) := by decide +kernel
theorem d_W_pattern_17 : decode mi_W_pattern.2.1 17 = .ok (.ireturn, 1) := by decide +kernel
theorem s_W_pattern_2 : kCall TT cl6 X mi_W_pattern 2 3 mi_M_pattern 2 2 0 := k_virtual (index := 58) d_W_pattern_2 cs_M_pattern rfl rfl t_5_152 t_5_153 t_5_154
theorem s_W_pattern_7 : kPush TT cl6 X mi_W_pattern 7 2 (.int (Int32.ofInt (-900001))) := k_ldc (index := 17) d_W_pattern_7 t_2_221
theorem s_W_pattern_11 : kPush TT cl6 X mi_W_pattern 11 2 (.int (Int32.ofInt (-900002))) := k_ldc (index := 20) d_W_pattern_11 t_2_222
theorem s_W_pattern_15 : kPush TT cl6 X mi_W_pattern 15 2 (.int (Int32.ofInt (-900003))) := k_ldc (index := 27) d_W_pattern_15 t_2_223
theorem d_W_proof_0 : decode mi_W_proof.2.1 0 = .ok (.aload_n 0, 1) := by decide +kernel
theorem d_W_proof_1 : decode mi_W_proof.2.1 1 = .ok (.iload_n 1, 1) := by decide +kernel
theorem d_W_proof_2 : decode mi_W_proof.2.1 2 = .ok (.iload_n 2, 1) := by decide +kernel
theorem d_W_proof_3 : decode mi_W_proof.2.1 3 = .ok (.iload_n 3, 1) := by decide +kernel
theorem d_W_proof_4 : decode mi_W_proof.2.1 4 = .ok (.invokevirtual 65, 3) := by decide +kernel
theorem d_W_proof_7 : decode mi_W_proof.2.1 7 = .ok (.ireturn, 1) := by decide +kernel
theorem d_W_proof_8 : decode mi_W_proof.2.1 8 = .ok (.astore 4, 2) := by decide +kernel
theorem d_W_proof_10 : decode mi_W_proof.2.1 10 = .ok (.ldc 17, 2) := by decide +kernel
theorem d_W_proof_12 : decode mi_W_proof.2.1 12 = .ok (.ireturn, 1) := by decide +kernel
theorem d_W_proof_13 : decode mi_W_proof.2.1 13 = .ok (.astore 4, 2) := by decide +kernel
theorem d_W_proof_15 : decode mi_W_proof.2.1 15 = .ok (.ldc 20, 2) := by decide +kernel
theorem d_W_proof_17 : decode mi_W_proof.2.1 17 = .ok (.ireturn, 1) := by decide +kernel
theorem d_W_proof_18 : decode mi_W_proof.2.1 18 = .ok (.astore 4, 2) := by decide +kernel
theorem d_W_proof_20 : decode mi_W_proof.2.1 20 = .ok (.ldc 27, 2) := by decide +kernel
theorem d_W_proof_22 : decode mi_W_proof.2.1 22 = .ok (.ireturn, 1) := by decide +kernel
theorem s_W_proof_4 : kCall TT cl6 X mi_W_proof 4 3 mi_M_proof 2 4 0 := k_virtual (index := 65) d_W_proof_4 cs_M_proof rfl rfl t_5_181 t_5_182 t_5_183
theorem s_W_proof_10 : kPush TT cl6 X mi_W_proof 10 2 (.int (Int32.ofInt (-900001))) := k_ldc (index := 17) d_W_proof_10 t_2_221
theorem s_W_proof_15 : kPush TT cl6 X mi_W_proof 15 2 (.int (Int32.ofInt (-900002))) := k_ldc (index := 20) d_W_proof_15 t_2_222
theorem s_W_proof_20 : kPush TT cl6 X mi_W_proof 20 2 (.int (Int32.ofInt (-900003))) := k_ldc (index := 27) d_W_proof_20 t_2_223
theorem d_W_prove_0 : decode mi_W_prove.2.1 0 = .ok (.aload_n 0, 1) := by decide +kernel
theorem d_W_prove_1 : decode mi_W_prove.2.1 1 = .ok (.iload_n 1, 1) := by decide +kernel
theorem d_W_prove_2 : decode mi_W_prove.2.1 2 = .ok (.iload_n 2, 1) := by decide +kernel
theorem d_W_prove_3 : decode mi_W_prove.2.1 3 = .ok (.iload_n 3, 1) := by decide +kernel
theorem d_W_prove_4 : decode mi_W_prove.2.1 4 = .ok (.iload 4, 2) := by decide +kernel
theorem d_W_prove_6 : decode mi_W_prove.2.1 6 = .ok (.invokevirtual 61, 3) := by decide +kernel
theorem d_W_prove_9 : decode mi_W_prove.2.1 9 = .ok (.ireturn, 1) := by decide +kernel
theorem d_W_prove_10 : decode mi_W_prove.2.1 10 = .ok (.astore 5, 2) := by decide +kernel
theorem d_W_prove_12 : decode mi_W_prove.2.1 12 = .ok (.ldc 17, 2) := by decide +kernel
theorem d_W_prove_14 : decode mi_W_prove.2.1 14 = .ok (.ireturn, 1) := by decide +kernel
theorem d_W_prove_15 : decode mi_W_prove.2.1 15 = .ok (.astore 5, 2) := by decide +kernel
theorem d_W_prove_17 : decode mi_W_prove.2.1 17 = .ok (.ldc 20, 2) := by decide +kernel
theorem d_W_prove_19 : decode mi_W_prove.2.1 19 = .ok (.ireturn, 1) := by decide +kernel
theorem d_W_prove_20 : decode mi_W_prove.2.1 20 = .ok (.astore 5, 2) := by decide +kernel
theorem d_W_prove_22 : decode mi_W_prove.2.1 22 = .ok (.ldc 27, 2) := by decide +kernel
theorem d_W_prove_24 : decode mi_W_prove.2.1 24 = .ok (.ireturn, 1) := by decide +kernel
theorem s_W_prove_6 : kCall TT cl6 X mi_W_prove 6 3 mi_M_prove 2 5 0 := k_virtual (index := 61) d_W_prove_6 cs_M_prove rfl rfl t_5_172 t_5_173 t_5_174
theorem s_W_prove_12 : kPush TT cl6 X mi_W_prove 12 2 (.int (Int32.ofInt (-900001))) := k_ldc (index := 17) d_W_prove_12 t_2_221
theorem s_W_prove_17 : kPush TT cl6 X mi_W_prove 17 2 (.int (Int32.ofInt (-900002))) := k_ldc (index := 20) d_W_prove_17 t_2_222
theorem s_W_prove_22 : kPush TT cl6 X mi_W_prove 22 2 (.int (Int32.ofInt (-900003))) := k_ldc (index := 27) d_W_prove_22 t_2_223
theorem d_W_reached_0 : decode mi_W_reached.2.1 0 = .ok (.aload_n 0, 1) := by decide +kernel
theorem d_W_reached_1 : decode mi_W_reached.2.1 1 = .ok (.invokevirtual 77, 3) := by decide +kernel
theorem d_W_reached_4 : decode mi_W_reached.2.1 4 = .ok (.ireturn, 1) := by decide +kernel
theorem d_W_reached_5 : decode mi_W_reached.2.1 5 = .ok (.astore_n 1, 1) := by decide +kernel
theorem d_W_reached_6 : decode mi_W_reached.2.1 6 = .ok (.ldc 17, 2) := by decide +kernel
theorem d_W_reached_8 : decode mi_W_reached.2.1 8 = .ok (.ireturn, 1) := by decide +kernel
theorem s_W_reached_1 : kCall TT cl6 X mi_W_reached 1 3 mi_M_reached 2 1 0 := k_virtual (index := 77) d_W_reached_1 cs_M_reached rfl rfl t_5_233 t_5_234 t_5_235
theorem s_W_reached_6 : kPush TT cl6 X mi_W_reached 6 2 (.int (Int32.ofInt (-900001))) := k_ldc (index := 17) d_W_reached_6 t_2_221
theorem d_W_run_0 : decode mi_W_run.2.1 0 = .ok (.aload_n 0, 1) := by decide +kernel
theorem d_W_run_1 : decode mi_W_run.2.1 1 = .ok (.iload_n 1, 1) := by decide +kernel
theorem d_W_run_2 : decode mi_W_run.2.1 2 = .ok (.iload_n 2, 1) := by decide +kernel
theorem d_W_run_3 : decode mi_W_run.2.1 3 = .ok (.iload_n 3, 1) := by decide +kernel
theorem d_W_run_4 : decode mi_W_run.2.1 4 = .ok (.invokevirtual 86, 3) := by decide +kernel
theorem d_W_run_7 : decode mi_W_run.2.1 7 = .ok (.ireturn, 1) := by decide +kernel
theorem d_W_run_8 : decode mi_W_run.2.1 8 = .ok (.astore 4, 2) := by decide +kernel
theorem d_W_run_10 : decode mi_W_run.2.1 10 = .ok (.ldc 17, 2) := by decide +kernel
theorem d_W_run_12 : decode mi_W_run.2.1 12 = .ok (.ireturn, 1) := by decide +kernel
theorem d_W_run_13 : decode mi_W_run.2.1 13 = .ok (.astore 4, 2) := by decide +kernel
theorem d_W_run_15 : decode mi_W_run.2.1 15 = .ok (.ldc 20, 2) := by decide +kernel
theorem d_W_run_17 : decode mi_W_run.2.1 17 = .ok (.ireturn, 1) := by decide +kernel
theorem s_W_run_4 : kCall TT cl6 X mi_W_run 4 3 mi_M_run 2 4 0 := k_virtual (index := 86) d_W_run_4 cs_M_run rfl rfl t_6_17 t_6_18 t_6_19
theorem s_W_run_10 : kPush TT cl6 X mi_W_run 10 2 (.int (Int32.ofInt (-900001))) := k_ldc (index := 17) d_W_run_10 t_2_221
theorem s_W_run_15 : kPush TT cl6 X mi_W_run 15 2 (.int (Int32.ofInt (-900002))) := k_ldc (index := 20) d_W_run_15 t_2_222
theorem d_W_sweep_0 : decode mi_W_sweep.2.1 0 = .ok (.aload_n 0, 1) := by decide +kernel
theorem d_W_sweep_1 : decode mi_W_sweep.2.1 1 = .ok (.iload_n 1, 1) := by decide +kernel
theorem d_W_sweep_2 : decode mi_W_sweep.2.1 2 = .ok (.invokevirtual 74, 3) := by decide +kernel
theorem d_W_sweep_5 : decode mi_W_sweep.2.1 5 = .ok (.ireturn, 1) := by decide +kernel
theorem d_W_sweep_6 : decode mi_W_sweep.2.1 6 = .ok (.astore_n 2, 1) := by decide +kernel
theorem d_W_sweep_7 : decode mi_W_sweep.2.1 7 = .ok (.ldc 17, 2) := by decide +kernel
theorem d_W_sweep_9 : decode mi_W_sweep.2.1 9 = .ok (.ireturn, 1) := by decide +kernel
theorem d_W_sweep_10 : decode mi_W_sweep.2.1 10 = .ok (.astore_n 2, 1) := by decide +kernel
theorem d_W_sweep_11 : decode mi_W_sweep.2.1 11 = .ok (.ldc 20, 2) := by decide +kernel
theorem d_W_sweep_13 : decode mi_W_sweep.2.1 13 = .ok (.ireturn, 1) := by decide +kernel
theorem s_W_sweep_2 : kCall TT cl6 X mi_W_sweep 2 3 mi_M_sweep 2 2 0 := k_virtual (index := 74) d_W_sweep_2 cs_M_sweep rfl rfl t_5_212 t_5_213 t_5_214
theorem s_W_sweep_7 : kPush TT cl6 X mi_W_sweep 7 2 (.int (Int32.ofInt (-900001))) := k_ldc (index := 17) d_W_sweep_7 t_2_221
theorem s_W_sweep_11 : kPush TT cl6 X mi_W_sweep 11 2 (.int (Int32.ofInt (-900002))) := k_ldc (index := 20) d_W_sweep_11 t_2_222
theorem d_W_told_0 : decode mi_W_told.2.1 0 = .ok (.iload_n 1, 1) := by decide +kernel
theorem d_W_told_1 : decode mi_W_told.2.1 1 = .ok (.ifCond .eq (7), 3) := by decide +kernel
theorem d_W_told_4 : decode mi_W_told.2.1 4 = .ok (.iload_n 2, 1) := by decide +kernel
theorem d_W_told_5 : decode mi_W_told.2.1 5 = .ok (.ifCond .ne (7), 3) := by decide +kernel
theorem d_W_told_8 : decode mi_W_told.2.1 8 = .ok (.iconst (0), 1) := by decide +kernel
theorem d_W_told_9 : decode mi_W_told.2.1 9 = .ok (.goto (18), 3) := by decide +kernel
theorem d_W_told_12 : decode mi_W_told.2.1 12 = .ok (.iload_n 1, 1) := by decide +kernel
theorem d_W_told_13 : decode mi_W_told.2.1 13 = .ok (.iconst (1), 1) := by decide +kernel
theorem d_W_told_14 : decode mi_W_told.2.1 14 = .ok (.if_icmp .ne (12), 3) := by decide +kernel
theorem d_W_told_17 : decode mi_W_told.2.1 17 = .ok (.iload_n 2, 1) := by decide +kernel
theorem d_W_told_18 : decode mi_W_told.2.1 18 = .ok (.iconst (1), 1) := by decide +kernel
theorem d_W_told_19 : decode mi_W_told.2.1 19 = .ok (.if_icmp .ne (7), 3) := by decide +kernel
theorem d_W_told_22 : decode mi_W_told.2.1 22 = .ok (.iconst (1), 1) := by decide +kernel
theorem d_W_told_23 : decode mi_W_told.2.1 23 = .ok (.goto (4), 3) := by decide +kernel
theorem d_W_told_26 : decode mi_W_told.2.1 26 = .ok (.iconst (2), 1) := by decide +kernel
theorem d_W_told_27 : decode mi_W_told.2.1 27 = .ok (.istore_n 3, 1) := by decide +kernel
theorem d_W_told_28 : decode mi_W_told.2.1 28 = .ok (.iload_n 1, 1) := by decide +kernel
theorem d_W_told_29 : decode mi_W_told.2.1 29 = .ok (.iconst (1), 1) := by decide +kernel
theorem d_W_told_30 : decode mi_W_told.2.1 30 = .ok (.if_icmp .eq (8), 3) := by decide +kernel
theorem d_W_told_33 : decode mi_W_told.2.1 33 = .ok (.iload_n 2, 1) := by decide +kernel
theorem d_W_told_34 : decode mi_W_told.2.1 34 = .ok (.iconst (1), 1) := by decide +kernel
theorem d_W_told_35 : decode mi_W_told.2.1 35 = .ok (.if_icmp .ne (7), 3) := by decide +kernel
theorem d_W_told_38 : decode mi_W_told.2.1 38 = .ok (.iconst (1), 1) := by decide +kernel
theorem d_W_told_39 : decode mi_W_told.2.1 39 = .ok (.goto (16), 3) := by decide +kernel
theorem d_W_told_42 : decode mi_W_told.2.1 42 = .ok (.iload_n 1, 1) := by decide +kernel
theorem d_W_told_43 : decode mi_W_told.2.1 43 = .ok (.ifCond .ne (11), 3) := by decide +kernel
theorem d_W_told_46 : decode mi_W_told.2.1 46 = .ok (.iload_n 2, 1) := by decide +kernel
theorem d_W_told_47 : decode mi_W_told.2.1 47 = .ok (.ifCond .ne (7), 3) := by decide +kernel
theorem d_W_told_50 : decode mi_W_told.2.1 50 = .ok (.iconst (0), 1) := by decide +kernel
theorem d_W_told_51 : decode mi_W_told.2.1 51 = .ok (.goto (4), 3) := by decide +kernel
theorem d_W_told_54 : decode mi_W_told.2.1 54 = .ok (.iconst (2), 1) := by decide +kernel
theorem d_W_told_55 : decode mi_W_told.2.1 55 = .ok (.istore 4, 2) := by decide +kernel
theorem d_W_told_57 : decode mi_W_told.2.1 57 = .ok (.iload_n 0, 1) := by decide +kernel
theorem d_W_told_58 : decode mi_W_told.2.1 58 = .ok (.bipush (97), 2) := by decide +kernel
theorem d_W_told_60 : decode mi_W_told.2.1 60 = .ok (.if_icmp .eq (9), 3) := by decide +kernel
theorem d_W_told_63 : decode mi_W_told.2.1 63 = .ok (.iload_n 0, 1) := by decide +kernel
theorem d_W_told_64 : decode mi_W_told.2.1 64 = .ok (.bipush (110), 2) := by decide +kernel
theorem d_W_told_66 : decode mi_W_told.2.1 66 = .ok (.if_icmp .ne (7), 3) := by decide +kernel
theorem d_W_told_69 : decode mi_W_told.2.1 69 = .ok (.iload_n 3, 1) := by decide +kernel
theorem d_W_told_70 : decode mi_W_told.2.1 70 = .ok (.goto (47), 3) := by decide +kernel
theorem d_W_told_73 : decode mi_W_told.2.1 73 = .ok (.iload_n 0, 1) := by decide +kernel
theorem d_W_told_74 : decode mi_W_told.2.1 74 = .ok (.bipush (111), 2) := by decide +kernel
theorem d_W_told_76 : decode mi_W_told.2.1 76 = .ok (.if_icmp .eq (9), 3) := by decide +kernel
theorem d_W_told_79 : decode mi_W_told.2.1 79 = .ok (.iload_n 0, 1) := by decide +kernel
theorem d_W_told_80 : decode mi_W_told.2.1 80 = .ok (.bipush (114), 2) := by decide +kernel
theorem d_W_told_82 : decode mi_W_told.2.1 82 = .ok (.if_icmp .ne (8), 3) := by decide +kernel
theorem d_W_told_85 : decode mi_W_told.2.1 85 = .ok (.iload 4, 2) := by decide +kernel
theorem d_W_told_87 : decode mi_W_told.2.1 87 = .ok (.goto (30), 3) := by decide +kernel
theorem d_W_told_90 : decode mi_W_told.2.1 90 = .ok (.iload_n 0, 1) := by decide +kernel
theorem d_W_told_91 : decode mi_W_told.2.1 91 = .ok (.bipush (120), 2) := by decide +kernel
theorem d_W_told_93 : decode mi_W_told.2.1 93 = .ok (.if_icmp .ne (23), 3) := by decide +kernel
theorem d_W_told_96 : decode mi_W_told.2.1 96 = .ok (.iload_n 1, 1) := by decide +kernel
theorem d_W_told_97 : decode mi_W_told.2.1 97 = .ok (.iconst (2), 1) := by decide +kernel
theorem d_W_told_98 : decode mi_W_told.2.1 98 = .ok (.if_icmp .eq (8), 3) := by decide +kernel
theorem d_W_told_101 : decode mi_W_told.2.1 101 = .ok (.iload_n 2, 1) := by decide +kernel
theorem d_W_told_102 : decode mi_W_told.2.1 102 = .ok (.iconst (2), 1) := by decide +kernel
theorem d_W_told_103 : decode mi_W_told.2.1 103 = .ok (.if_icmp .ne (7), 3) := by decide +kernel
theorem d_W_told_106 : decode mi_W_told.2.1 106 = .ok (.iconst (2), 1) := by decide +kernel
theorem d_W_told_107 : decode mi_W_told.2.1 107 = .ok (.goto (10), 3) := by decide +kernel
theorem d_W_told_110 : decode mi_W_told.2.1 110 = .ok (.iload_n 1, 1) := by decide +kernel
theorem d_W_told_111 : decode mi_W_told.2.1 111 = .ok (.iload_n 2, 1) := by decide +kernel
theorem d_W_told_112 : decode mi_W_told.2.1 112 = .ok (.ixor, 1) := by decide +kernel
theorem d_W_told_113 : decode mi_W_told.2.1 113 = .ok (.goto (4), 3) := by decide +kernel
theorem d_W_told_116 : decode mi_W_told.2.1 116 = .ok (.iload_n 1, 1) := by decide +kernel
theorem d_W_told_117 : decode mi_W_told.2.1 117 = .ok (.istore 5, 2) := by decide +kernel
theorem d_W_told_119 : decode mi_W_told.2.1 119 = .ok (.iload 5, 2) := by decide +kernel
theorem d_W_told_121 : decode mi_W_told.2.1 121 = .ok (.iconst (2), 1) := by decide +kernel
theorem d_W_told_122 : decode mi_W_told.2.1 122 = .ok (.if_icmp .eq (21), 3) := by decide +kernel
theorem d_W_told_125 : decode mi_W_told.2.1 125 = .ok (.iload_n 0, 1) := by decide +kernel
theorem d_W_told_126 : decode mi_W_told.2.1 126 = .ok (.bipush (110), 2) := by decide +kernel
theorem d_W_told_128 : decode mi_W_told.2.1 128 = .ok (.if_icmp .eq (20), 3) := by decide +kernel
theorem d_W_told_131 : decode mi_W_told.2.1 131 = .ok (.iload_n 0, 1) := by decide +kernel
theorem d_W_told_132 : decode mi_W_told.2.1 132 = .ok (.bipush (114), 2) := by decide +kernel
theorem d_W_told_134 : decode mi_W_told.2.1 134 = .ok (.if_icmp .eq (14), 3) := by decide +kernel
theorem d_W_told_137 : decode mi_W_told.2.1 137 = .ok (.iload_n 0, 1) := by decide +kernel
theorem d_W_told_138 : decode mi_W_told.2.1 138 = .ok (.bipush (118), 2) := by decide +kernel
theorem d_W_told_140 : decode mi_W_told.2.1 140 = .ok (.if_icmp .eq (8), 3) := by decide +kernel
theorem d_W_told_143 : decode mi_W_told.2.1 143 = .ok (.iload 5, 2) := by decide +kernel
theorem d_W_told_145 : decode mi_W_told.2.1 145 = .ok (.goto (7), 3) := by decide +kernel
theorem d_W_told_148 : decode mi_W_told.2.1 148 = .ok (.iconst (1), 1) := by decide +kernel
theorem d_W_told_149 : decode mi_W_told.2.1 149 = .ok (.iload 5, 2) := by decide +kernel
theorem d_W_told_151 : decode mi_W_told.2.1 151 = .ok (.isub, 1) := by decide +kernel
theorem d_W_told_152 : decode mi_W_told.2.1 152 = .ok (.ireturn, 1) := by decide +kernel
theorem d_W_trace_0 : decode mi_W_trace.2.1 0 = .ok (.aload_n 0, 1) := by decide +kernel
theorem d_W_trace_1 : decode mi_W_trace.2.1 1 = .ok (.iload_n 1, 1) := by decide +kernel
theorem d_W_trace_2 : decode mi_W_trace.2.1 2 = .ok (.invokevirtual 83, 3) := by decide +kernel
theorem d_W_trace_5 : decode mi_W_trace.2.1 5 = .ok (.ireturn, 1) := by decide +kernel
theorem d_W_trace_6 : decode mi_W_trace.2.1 6 = .ok (.astore_n 2, 1) := by decide +kernel
theorem d_W_trace_7 : decode mi_W_trace.2.1 7 = .ok (.ldc 17, 2) := by decide +kernel
theorem d_W_trace_9 : decode mi_W_trace.2.1 9 = .ok (.ireturn, 1) := by decide +kernel
theorem d_W_trace_10 : decode mi_W_trace.2.1 10 = .ok (.astore_n 2, 1) := by decide +kernel
theorem d_W_trace_11 : decode mi_W_trace.2.1 11 = .ok (.ldc 20, 2) := by decide +kernel
theorem d_W_trace_13 : decode mi_W_trace.2.1 13 = .ok (.ireturn, 1) := by decide +kernel
theorem s_W_trace_2 : kCall TT cl6 X mi_W_trace 2 3 mi_M_trace 2 2 0 := k_virtual (index := 83) d_W_trace_2 cs_M_trace rfl rfl t_6_8 t_6_9 t_6_10
theorem s_W_trace_7 : kPush TT cl6 X mi_W_trace 7 2 (.int (Int32.ofInt (-900001))) := k_ldc (index := 17) d_W_trace_7 t_2_221
theorem s_W_trace_11 : kPush TT cl6 X mi_W_trace 11 2 (.int (Int32.ofInt (-900002))) := k_ldc (index := 20) d_W_trace_11 t_2_222
theorem d_W_value_0 : decode mi_W_value.2.1 0 = .ok (.aload_n 0, 1) := by decide +kernel
theorem d_W_value_1 : decode mi_W_value.2.1 1 = .ok (.iload_n 1, 1) := by decide +kernel
theorem d_W_value_2 : decode mi_W_value.2.1 2 = .ok (.iload_n 2, 1) := by decide +kernel
theorem d_W_value_3 : decode mi_W_value.2.1 3 = .ok (.invokevirtual 49, 3) := by decide +kernel
theorem d_W_value_6 : decode mi_W_value.2.1 6 = .ok (.ireturn, 1) := by decide +kernel
theorem d_W_value_7 : decode mi_W_value.2.1 7 = .ok (.astore_n 3, 1) := by decide +kernel
theorem d_W_value_8 : decode mi_W_value.2.1 8 = .ok (.ldc 17, 2) := by decide +kernel
theorem d_W_value_10 : decode mi_W_value.2.1 10 = .ok (.ireturn, 1) := by decide +kernel
theorem d_W_value_11 : decode mi_W_value.2.1 11 = .ok (.astore_n 3, 1) := by decide +kernel
theorem d_W_value_12 : decode mi_W_value.2.1 12 = .ok (.ldc 20, 2) := by decide +kernel
theorem d_W_value_14 : decode mi_W_value.2.1 14 = .ok (.ireturn, 1) := by decide +kernel
theorem d_W_value_15 : decode mi_W_value.2.1 15 = .ok (.astore_n 3, 1) := by decide +kernel
theorem d_W_value_16 : decode mi_W_value.2.1 16 = .ok (.ldc 27, 2) := by decide +kernel
theorem d_W_value_18 : decode mi_W_value.2.1 18 = .ok (.ireturn, 1) := by decide +kernel
theorem s_W_value_3 : kCall TT cl6 X mi_W_value 3 3 mi_M_value 2 3 0 := k_virtual (index := 49) d_W_value_3 cs_M_value rfl rfl t_5_121 t_5_122 t_5_123
theorem s_W_value_8 : kPush TT cl6 X mi_W_value 8 2 (.int (Int32.ofInt (-900001))) := k_ldc (index := 17) d_W_value_8 t_2_221
theorem s_W_value_12 : kPush TT cl6 X mi_W_value 12 2 (.int (Int32.ofInt (-900002))) := k_ldc (index := 20) d_W_value_12 t_2_222
theorem s_W_value_16 : kPush TT cl6 X mi_W_value 16 2 (.int (Int32.ofInt (-900003))) := k_ldc (index := 27) d_W_value_16 t_2_223
theorem d_W_valuesBy_0 : decode mi_W_valuesBy.2.1 0 = .ok (.aload_n 0, 1) := by decide +kernel
theorem d_W_valuesBy_1 : decode mi_W_valuesBy.2.1 1 = .ok (.arraylength, 1) := by decide +kernel
theorem d_W_valuesBy_2 : decode mi_W_valuesBy.2.1 2 = .ok (.newarray .int, 2) := by decide +kernel
theorem d_W_valuesBy_4 : decode mi_W_valuesBy.2.1 4 = .ok (.astore_n 3, 1) := by decide +kernel
theorem d_W_valuesBy_5 : decode mi_W_valuesBy.2.1 5 = .ok (.iconst (0), 1) := by decide +kernel
theorem d_W_valuesBy_6 : decode mi_W_valuesBy.2.1 6 = .ok (.istore 4, 2) := by decide +kernel
theorem d_W_valuesBy_8 : decode mi_W_valuesBy.2.1 8 = .ok (.iload 4, 2) := by decide +kernel
theorem d_W_valuesBy_10 : decode mi_W_valuesBy.2.1 10 = .ok (.aload_n 0, 1) := by decide +kernel
theorem d_W_valuesBy_11 : decode mi_W_valuesBy.2.1 11 = .ok (.arraylength, 1) := by decide +kernel
theorem d_W_valuesBy_12 : decode mi_W_valuesBy.2.1 12 = .ok (.if_icmp .ge (191), 3) := by decide +kernel
theorem d_W_valuesBy_15 : decode mi_W_valuesBy.2.1 15 = .ok (.aload_n 0, 1) := by decide +kernel
theorem d_W_valuesBy_16 : decode mi_W_valuesBy.2.1 16 = .ok (.iload 4, 2) := by decide +kernel
theorem d_W_valuesBy_18 : decode mi_W_valuesBy.2.1 18 = .ok (.aaload, 1) := by decide +kernel
theorem d_W_valuesBy_19 : decode mi_W_valuesBy.2.1 19 = .ok (.astore 5, 2) := by decide +kernel
theorem d_W_valuesBy_21 : decode mi_W_valuesBy.2.1 21 = .ok (.aload 5, 2) := by decide +kernel
theorem d_W_valuesBy_23 : decode mi_W_valuesBy.2.1 23 = .ok (.iconst (0), 1) := by decide +kernel
theorem d_W_valuesBy_24 : decode mi_W_valuesBy.2.1 24 = .ok (.iaload, 1) := by decide +kernel
theorem d_W_valuesBy_25 : decode mi_W_valuesBy.2.1 25 = .ok (.bipush (105), 2) := by decide +kernel
theorem d_W_valuesBy_27 : decode mi_W_valuesBy.2.1 27 = .ok (.if_icmp .eq (12), 3) := by decide +kernel
theorem d_W_valuesBy_30 : decode mi_W_valuesBy.2.1 30 = .ok (.aload 5, 2) := by decide +kernel
theorem d_W_valuesBy_32 : decode mi_W_valuesBy.2.1 32 = .ok (.iconst (0), 1) := by decide +kernel
theorem d_W_valuesBy_33 : decode mi_W_valuesBy.2.1 33 = .ok (.iaload, 1) := by decide +kernel
theorem d_W_valuesBy_34 : decode mi_W_valuesBy.2.1 34 = .ok (.bipush (99), 2) := by decide +kernel
theorem d_W_valuesBy_36 : decode mi_W_valuesBy.2.1 36 = .ok (.if_icmp .ne (12), 3) := by decide +kernel
theorem d_W_valuesBy_39 : decode mi_W_valuesBy.2.1 39 = .ok (.iload_n 2, 1) := by decide +kernel
theorem d_W_valuesBy_40 : decode mi_W_valuesBy.2.1 40 = .ok (.iload 4, 2) := by decide +kernel
theorem d_W_valuesBy_42 : decode mi_W_valuesBy.2.1 42 = .ok (.ishr, 1) := by decide +kernel
theorem d_W_valuesBy_43 : decode mi_W_valuesBy.2.1 43 = .ok (.iconst (1), 1) := by decide +kernel
theorem d_W_valuesBy_44 : decode mi_W_valuesBy.2.1 44 = .ok (.iand, 1) := by decide +kernel
theorem d_W_valuesBy_45 : decode mi_W_valuesBy.2.1 45 = .ok (.goto (9), 3) := by decide +kernel
theorem d_W_valuesBy_48 : decode mi_W_valuesBy.2.1 48 = .ok (.aload_n 3, 1) := by decide +kernel
theorem d_W_valuesBy_49 : decode mi_W_valuesBy.2.1 49 = .ok (.aload 5, 2) := by decide +kernel
theorem d_W_valuesBy_51 : decode mi_W_valuesBy.2.1 51 = .ok (.iconst (2), 1) := by decide +kernel
theorem d_W_valuesBy_52 : decode mi_W_valuesBy.2.1 52 = .ok (.iaload, 1) := by decide +kernel
theorem d_W_valuesBy_53 : decode mi_W_valuesBy.2.1 53 = .ok (.iaload, 1) := by decide +kernel
theorem d_W_valuesBy_54 : decode mi_W_valuesBy.2.1 54 = .ok (.istore 6, 2) := by decide +kernel
theorem d_W_valuesBy_56 : decode mi_W_valuesBy.2.1 56 = .ok (.aload 5, 2) := by decide +kernel
theorem d_W_valuesBy_58 : decode mi_W_valuesBy.2.1 58 = .ok (.iconst (0), 1) := by decide +kernel
theorem d_W_valuesBy_59 : decode mi_W_valuesBy.2.1 59 = .ok (.iaload, 1) := by decide +kernel
theorem d_W_valuesBy_60 : decode mi_W_valuesBy.2.1 60 = .ok (.bipush (105), 2) := by decide +kernel
theorem d_W_valuesBy_62 : decode mi_W_valuesBy.2.1 62 = .ok (.if_icmp .eq (12), 3) := by decide +kernel
theorem d_W_valuesBy_65 : decode mi_W_valuesBy.2.1 65 = .ok (.aload 5, 2) := by decide +kernel
theorem d_W_valuesBy_67 : decode mi_W_valuesBy.2.1 67 = .ok (.iconst (0), 1) := by decide +kernel
theorem d_W_valuesBy_68 : decode mi_W_valuesBy.2.1 68 = .ok (.iaload, 1) := by decide +kernel
theorem d_W_valuesBy_69 : decode mi_W_valuesBy.2.1 69 = .ok (.bipush (99), 2) := by decide +kernel
theorem d_W_valuesBy_71 : decode mi_W_valuesBy.2.1 71 = .ok (.if_icmp .ne (7), 3) := by decide +kernel
theorem d_W_valuesBy_74 : decode mi_W_valuesBy.2.1 74 = .ok (.iconst (0), 1) := by decide +kernel
theorem d_W_valuesBy_75 : decode mi_W_valuesBy.2.1 75 = .ok (.goto (9), 3) := by decide +kernel
theorem d_W_valuesBy_78 : decode mi_W_valuesBy.2.1 78 = .ok (.aload_n 3, 1) := by decide +kernel
theorem d_W_valuesBy_79 : decode mi_W_valuesBy.2.1 79 = .ok (.aload 5, 2) := by decide +kernel
theorem d_W_valuesBy_81 : decode mi_W_valuesBy.2.1 81 = .ok (.iconst (3), 1) := by decide +kernel
theorem d_W_valuesBy_82 : decode mi_W_valuesBy.2.1 82 = .ok (.iaload, 1) := by decide +kernel
theorem d_W_valuesBy_83 : decode mi_W_valuesBy.2.1 83 = .ok (.iaload, 1) := by decide +kernel
theorem d_W_valuesBy_84 : decode mi_W_valuesBy.2.1 84 = .ok (.istore 7, 2) := by decide +kernel
theorem d_W_valuesBy_86 : decode mi_W_valuesBy.2.1 86 = .ok (.aload_n 3, 1) := by decide +kernel
theorem d_W_valuesBy_87 : decode mi_W_valuesBy.2.1 87 = .ok (.iload 4, 2) := by decide +kernel
theorem d_W_valuesBy_89 : decode mi_W_valuesBy.2.1 89 = .ok (.aload 5, 2) := by decide +kernel
theorem d_W_valuesBy_91 : decode mi_W_valuesBy.2.1 91 = .ok (.iconst (0), 1) := by decide +kernel
theorem d_W_valuesBy_92 : decode mi_W_valuesBy.2.1 92 = .ok (.iaload, 1) := by decide +kernel
theorem d_W_valuesBy_93 : decode mi_W_valuesBy.2.1 93 = .ok (.bipush (97), 2) := by decide +kernel
theorem d_W_valuesBy_95 : decode mi_W_valuesBy.2.1 95 = .ok (.if_icmp .ne (11), 3) := by decide +kernel
theorem d_W_valuesBy_98 : decode mi_W_valuesBy.2.1 98 = .ok (.iload 6, 2) := by decide +kernel
theorem d_W_valuesBy_100 : decode mi_W_valuesBy.2.1 100 = .ok (.iload 7, 2) := by decide +kernel
theorem d_W_valuesBy_102 : decode mi_W_valuesBy.2.1 102 = .ok (.iand, 1) := by decide +kernel
theorem d_W_valuesBy_103 : decode mi_W_valuesBy.2.1 103 = .ok (.goto (93), 3) := by decide +kernel
theorem d_W_valuesBy_106 : decode mi_W_valuesBy.2.1 106 = .ok (.aload 5, 2) := by decide +kernel
theorem d_W_valuesBy_108 : decode mi_W_valuesBy.2.1 108 = .ok (.iconst (0), 1) := by decide +kernel
theorem d_W_valuesBy_109 : decode mi_W_valuesBy.2.1 109 = .ok (.iaload, 1) := by decide +kernel
theorem d_W_valuesBy_110 : decode mi_W_valuesBy.2.1 110 = .ok (.bipush (111), 2) := by decide +kernel
theorem d_W_valuesBy_112 : decode mi_W_valuesBy.2.1 112 = .ok (.if_icmp .ne (11), 3) := by decide +kernel
theorem d_W_valuesBy_115 : decode mi_W_valuesBy.2.1 115 = .ok (.iload 6, 2) := by decide +kernel
theorem d_W_valuesBy_117 : decode mi_W_valuesBy.2.1 117 = .ok (.iload 7, 2) := by decide +kernel
theorem d_W_valuesBy_119 : decode mi_W_valuesBy.2.1 119 = .ok (.ior, 1) := by decide +kernel
theorem d_W_valuesBy_120 : decode mi_W_valuesBy.2.1 120 = .ok (.goto (76), 3) := by decide +kernel
theorem d_W_valuesBy_123 : decode mi_W_valuesBy.2.1 123 = .ok (.aload 5, 2) := by decide +kernel
theorem d_W_valuesBy_125 : decode mi_W_valuesBy.2.1 125 = .ok (.iconst (0), 1) := by decide +kernel
theorem d_W_valuesBy_126 : decode mi_W_valuesBy.2.1 126 = .ok (.iaload, 1) := by decide +kernel
theorem d_W_valuesBy_127 : decode mi_W_valuesBy.2.1 127 = .ok (.bipush (120), 2) := by decide +kernel
theorem d_W_valuesBy_129 : decode mi_W_valuesBy.2.1 129 = .ok (.if_icmp .ne (11), 3) := by decide +kernel
theorem d_W_valuesBy_132 : decode mi_W_valuesBy.2.1 132 = .ok (.iload 6, 2) := by decide +kernel
theorem d_W_valuesBy_134 : decode mi_W_valuesBy.2.1 134 = .ok (.iload 7, 2) := by decide +kernel
theorem d_W_valuesBy_136 : decode mi_W_valuesBy.2.1 136 = .ok (.ixor, 1) := by decide +kernel
theorem d_W_valuesBy_137 : decode mi_W_valuesBy.2.1 137 = .ok (.goto (59), 3) := by decide +kernel
theorem d_W_valuesBy_140 : decode mi_W_valuesBy.2.1 140 = .ok (.aload 5, 2) := by decide +kernel
theorem d_W_valuesBy_142 : decode mi_W_valuesBy.2.1 142 = .ok (.iconst (0), 1) := by decide +kernel
theorem d_W_valuesBy_143 : decode mi_W_valuesBy.2.1 143 = .ok (.iaload, 1) := by decide +kernel
theorem d_W_valuesBy_144 : decode mi_W_valuesBy.2.1 144 = .ok (.bipush (110), 2) := by decide +kernel
theorem d_W_valuesBy_146 : decode mi_W_valuesBy.2.1 146 = .ok (.if_icmp .ne (13), 3) := by decide +kernel
theorem d_W_valuesBy_149 : decode mi_W_valuesBy.2.1 149 = .ok (.iconst (1), 1) := by decide +kernel
theorem d_W_valuesBy_150 : decode mi_W_valuesBy.2.1 150 = .ok (.iload 6, 2) := by decide +kernel
theorem d_W_valuesBy_152 : decode mi_W_valuesBy.2.1 152 = .ok (.iload 7, 2) := by decide +kernel
theorem d_W_valuesBy_154 : decode mi_W_valuesBy.2.1 154 = .ok (.iand, 1) := by decide +kernel
theorem d_W_valuesBy_155 : decode mi_W_valuesBy.2.1 155 = .ok (.isub, 1) := by decide +kernel
theorem d_W_valuesBy_156 : decode mi_W_valuesBy.2.1 156 = .ok (.goto (40), 3) := by decide +kernel
theorem d_W_valuesBy_159 : decode mi_W_valuesBy.2.1 159 = .ok (.aload 5, 2) := by decide +kernel
theorem d_W_valuesBy_161 : decode mi_W_valuesBy.2.1 161 = .ok (.iconst (0), 1) := by decide +kernel
theorem d_W_valuesBy_162 : decode mi_W_valuesBy.2.1 162 = .ok (.iaload, 1) := by decide +kernel
theorem d_W_valuesBy_163 : decode mi_W_valuesBy.2.1 163 = .ok (.bipush (114), 2) := by decide +kernel
theorem d_W_valuesBy_165 : decode mi_W_valuesBy.2.1 165 = .ok (.if_icmp .ne (13), 3) := by decide +kernel
theorem d_W_valuesBy_168 : decode mi_W_valuesBy.2.1 168 = .ok (.iconst (1), 1) := by decide +kernel
theorem d_W_valuesBy_169 : decode mi_W_valuesBy.2.1 169 = .ok (.iload 6, 2) := by decide +kernel
theorem d_W_valuesBy_171 : decode mi_W_valuesBy.2.1 171 = .ok (.iload 7, 2) := by decide +kernel
theorem d_W_valuesBy_173 : decode mi_W_valuesBy.2.1 173 = .ok (.ior, 1) := by decide +kernel
theorem d_W_valuesBy_174 : decode mi_W_valuesBy.2.1 174 = .ok (.isub, 1) := by decide +kernel
theorem d_W_valuesBy_175 : decode mi_W_valuesBy.2.1 175 = .ok (.goto (21), 3) := by decide +kernel
theorem d_W_valuesBy_178 : decode mi_W_valuesBy.2.1 178 = .ok (.aload 5, 2) := by decide +kernel
theorem d_W_valuesBy_180 : decode mi_W_valuesBy.2.1 180 = .ok (.iconst (0), 1) := by decide +kernel
theorem d_W_valuesBy_181 : decode mi_W_valuesBy.2.1 181 = .ok (.iaload, 1) := by decide +kernel
theorem d_W_valuesBy_182 : decode mi_W_valuesBy.2.1 182 = .ok (.bipush (118), 2) := by decide +kernel
theorem d_W_valuesBy_184 : decode mi_W_valuesBy.2.1 184 = .ok (.if_icmp .ne (10), 3) := by decide +kernel
theorem d_W_valuesBy_187 : decode mi_W_valuesBy.2.1 187 = .ok (.iconst (1), 1) := by decide +kernel
theorem d_W_valuesBy_188 : decode mi_W_valuesBy.2.1 188 = .ok (.iload 6, 2) := by decide +kernel
theorem d_W_valuesBy_190 : decode mi_W_valuesBy.2.1 190 = .ok (.isub, 1) := by decide +kernel
theorem d_W_valuesBy_191 : decode mi_W_valuesBy.2.1 191 = .ok (.goto (5), 3) := by decide +kernel
theorem d_W_valuesBy_194 : decode mi_W_valuesBy.2.1 194 = .ok (.iload 6, 2) := by decide +kernel
theorem d_W_valuesBy_196 : decode mi_W_valuesBy.2.1 196 = .ok (.iastore, 1) := by decide +kernel
theorem d_W_valuesBy_197 : decode mi_W_valuesBy.2.1 197 = .ok (.iinc 4 (1), 3) := by decide +kernel
theorem d_W_valuesBy_200 : decode mi_W_valuesBy.2.1 200 = .ok (.goto (-192), 3) := by decide +kernel
theorem d_W_valuesBy_203 : decode mi_W_valuesBy.2.1 203 = .ok (.aload_n 3, 1) := by decide +kernel
theorem d_W_valuesBy_204 : decode mi_W_valuesBy.2.1 204 = .ok (.areturn, 1) := by decide +kernel
end RW12
