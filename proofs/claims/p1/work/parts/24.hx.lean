section HX1
theorem cs_0 : mj_CS TT (mis 0) 0 := ⟨pwTT, t_1_47, t_1_1, ⟨by decide +kernel, by decide +kernel⟩, by decide +kernel⟩
theorem cs_1 : mj_CS TT (mis 1) 0 := ⟨pwTT, t_6_192, t_1_1, ⟨by decide +kernel, by decide +kernel⟩, by decide +kernel⟩
theorem cs_2 : mj_CS TT (mis 2) 0 := ⟨pwTT, t_5_185, t_1_1, ⟨by decide +kernel, by decide +kernel⟩, by decide +kernel⟩
theorem cs_3 : mj_CS TT (mis 3) 1 := ⟨pwTT, t_7_121, t_1_1, ⟨by decide +kernel, by decide +kernel⟩, by decide +kernel⟩
theorem cs_4 : mj_CS TT (mis 4) 1 := ⟨pwTT, t_6_11, t_1_1, ⟨by decide +kernel, by decide +kernel⟩, by decide +kernel⟩
theorem cs_5 : mj_CS TT (mis 5) 3 := ⟨pwTT, t_2_203, t_1_1, ⟨by decide +kernel, by decide +kernel⟩, by decide +kernel⟩
theorem cs_6 : mj_CS TT (mis 6) 0 := ⟨pwTT, t_8_26, t_1_1, ⟨by decide +kernel, by decide +kernel⟩, by decide +kernel⟩
theorem cs_7 : mj_CS TT (mis 7) 0 := ⟨pwTT, t_3_119, t_1_1, ⟨by decide +kernel, by decide +kernel⟩, by decide +kernel⟩
theorem cs_8 : mj_CS TT (mis 8) 4 := ⟨pwTT, t_7_112, t_1_1, ⟨by decide +kernel, by decide +kernel⟩, by decide +kernel⟩
theorem cs_9 : mj_CS TT (mis 9) 1 := ⟨pwTT, t_5_128, t_1_1, ⟨by decide +kernel, by decide +kernel⟩, by decide +kernel⟩
theorem cs_10 : mj_CS TT (mis 10) 3 := ⟨pwTT, t_7_228, t_1_1, ⟨by decide +kernel, by decide +kernel⟩, by decide +kernel⟩
theorem cs_11 : mj_CS TT (mis 11) 4 := ⟨pwTT, t_7_64, t_1_1, ⟨by decide +kernel, by decide +kernel⟩, by decide +kernel⟩
theorem cs_12 : mj_CS TT (mis 12) 2 := ⟨pwTT, t_6_224, t_1_1, ⟨by decide +kernel, by decide +kernel⟩, by decide +kernel⟩
theorem cs_13 : mj_CS TT (mis 13) 2 := ⟨pwTT, t_3_86, t_1_1, ⟨by decide +kernel, by decide +kernel⟩, by decide +kernel⟩
theorem cs_14 : mj_CS TT (mis 14) 2 := ⟨pwTT, t_6_100, t_1_1, ⟨by decide +kernel, by decide +kernel⟩, by decide +kernel⟩
theorem cs_15 : mj_CS TT (mis 15) 0 := ⟨pwTT, t_8_45, t_1_1, ⟨by decide +kernel, by decide +kernel⟩, by decide +kernel⟩
theorem cs_16 : mj_CS TT (mis 16) 4 := ⟨pwTT, t_3_44, t_1_1, ⟨by decide +kernel, by decide +kernel⟩, by decide +kernel⟩
theorem cs_17 : mj_CS TT (mis 17) 1 := ⟨pwTT, t_5_87, t_1_1, ⟨by decide +kernel, by decide +kernel⟩, by decide +kernel⟩
theorem cs_18 : mj_CS TT (mis 18) 0 := ⟨pwTT, t_2_94, t_1_1, ⟨by decide +kernel, by decide +kernel⟩, by decide +kernel⟩
theorem cs_19 : mj_CS TT (mis 19) 1 := ⟨pwTT, t_7_183, t_1_1, ⟨by decide +kernel, by decide +kernel⟩, by decide +kernel⟩
theorem cs_20 : mj_CS TT (mis 20) 1 := ⟨pwTT, t_8_61, t_1_1, ⟨by decide +kernel, by decide +kernel⟩, by decide +kernel⟩
theorem cs_21 : mj_CS TT (mis 21) 1 := ⟨pwTT, t_8_82, t_1_1, ⟨by decide +kernel, by decide +kernel⟩, by decide +kernel⟩
theorem cs_22 : mj_CS TT (mis 22) 1 := ⟨pwTT, t_3_47, t_1_1, ⟨by decide +kernel, by decide +kernel⟩, by decide +kernel⟩
theorem cs_23 : mj_CS TT (mis 23) 0 := ⟨pwTT, t_1_135, t_1_1, ⟨by decide +kernel, by decide +kernel⟩, by decide +kernel⟩
theorem cs_24 : mj_CS TT (mis 24) 0 := ⟨pwTT, t_1_131, t_1_1, ⟨by decide +kernel, by decide +kernel⟩, by decide +kernel⟩
theorem cs_25 : mj_CS TT (mis 25) 1 := ⟨pwTT, t_5_177, t_1_1, ⟨by decide +kernel, by decide +kernel⟩, by decide +kernel⟩
theorem cs_26 : mj_CS TT (mis 26) 0 := ⟨pwTT, t_8_133, t_1_1, ⟨by decide +kernel, by decide +kernel⟩, by decide +kernel⟩
theorem cs_27 : mj_CS TT (mis 27) 0 := ⟨pwTT, t_1_123, t_1_1, ⟨by decide +kernel, by decide +kernel⟩, by decide +kernel⟩
theorem cs_28 : mj_CS TT (mis 28) 1 := ⟨pwTT, t_6_67, t_1_1, ⟨by decide +kernel, by decide +kernel⟩, by decide +kernel⟩
theorem cs_29 : mj_CS TT (mis 29) 0 := ⟨pwTT, t_8_123, t_1_1, ⟨by decide +kernel, by decide +kernel⟩, by decide +kernel⟩
theorem cs_30 : mj_CS TT (mis 30) 1 := ⟨pwTT, t_5_169, t_1_1, ⟨by decide +kernel, by decide +kernel⟩, by decide +kernel⟩
theorem cs_31 : mj_CS TT (mis 31) 0 := ⟨pwTT, t_5_132, t_1_1, ⟨by decide +kernel, by decide +kernel⟩, by decide +kernel⟩
theorem cs_32 : mj_CS TT (mis 32) 1 := ⟨pwTT, t_3_52, t_1_1, ⟨by decide +kernel, by decide +kernel⟩, by decide +kernel⟩
theorem cs_33 : mj_CS TT (mis 33) 0 := ⟨pwTT, t_2_98, t_1_1, ⟨by decide +kernel, by decide +kernel⟩, by decide +kernel⟩
theorem cs_34 : mj_CS TT (mis 34) 3 := ⟨pwTT, t_2_206, t_1_1, ⟨by decide +kernel, by decide +kernel⟩, by decide +kernel⟩
theorem cs_35 : mj_CS TT (mis 35) 2 := ⟨pwTT, t_6_228, t_1_1, ⟨by decide +kernel, by decide +kernel⟩, by decide +kernel⟩
theorem cs_36 : mj_CS TT (mis 36) 2 := ⟨pwTT, t_7_95, t_1_1, ⟨by decide +kernel, by decide +kernel⟩, by decide +kernel⟩
theorem cs_37 : mj_CS TT (mis 37) 2 := ⟨pwTT, t_1_159, t_1_1, ⟨by decide +kernel, by decide +kernel⟩, by decide +kernel⟩
theorem cs_38 : mj_CS TT (mis 38) 2 := ⟨pwTT, t_6_75, t_1_1, ⟨by decide +kernel, by decide +kernel⟩, by decide +kernel⟩
theorem cs_39 : mj_CS TT (mis 39) 2 := ⟨pwTT, t_3_105, t_1_1, ⟨by decide +kernel, by decide +kernel⟩, by decide +kernel⟩
theorem cs_40 : mj_CS TT (mis 40) 5 := ⟨pwTT, t_7_190, t_1_1, ⟨by decide +kernel, by decide +kernel⟩, by decide +kernel⟩
theorem cs_41 : mj_CS TT (mis 41) 1 := ⟨pwTT, t_5_223, t_1_1, ⟨by decide +kernel, by decide +kernel⟩, by decide +kernel⟩
theorem cs_42 : mj_CS TT (mis 42) 0 := ⟨pwTT, t_1_127, t_1_1, ⟨by decide +kernel, by decide +kernel⟩, by decide +kernel⟩
theorem cs_43 : mj_CS TT (mis 43) 2 := ⟨pwTT, t_5_197, t_1_1, ⟨by decide +kernel, by decide +kernel⟩, by decide +kernel⟩
theorem cs_44 : mj_CS TT (mis 44) 1 := ⟨pwTT, t_6_92, t_1_1, ⟨by decide +kernel, by decide +kernel⟩, by decide +kernel⟩
theorem cs_45 : mj_CS TT (mis 45) 3 := ⟨pwTT, t_7_125, t_1_1, ⟨by decide +kernel, by decide +kernel⟩, by decide +kernel⟩
theorem cs_46 : mj_CS TT (mis 46) 3 := ⟨pwTT, t_6_34, t_1_1, ⟨by decide +kernel, by decide +kernel⟩, by decide +kernel⟩
theorem cs_47 : mj_CS TT (mis 47) 4 := ⟨pwTT, t_6_26, t_1_1, ⟨by decide +kernel, by decide +kernel⟩, by decide +kernel⟩
theorem cs_48 : mj_CS TT (mis 48) 3 := ⟨pwTT, t_1_205, t_1_1, ⟨by decide +kernel, by decide +kernel⟩, by decide +kernel⟩
theorem cs_49 : mj_CS TT (mis 49) 0 := ⟨pwTT, t_8_37, t_1_1, ⟨by decide +kernel, by decide +kernel⟩, by decide +kernel⟩
theorem cs_50 : mj_CS TT (mis 50) 3 := ⟨pwTT, t_8_97, t_1_1, ⟨by decide +kernel, by decide +kernel⟩, by decide +kernel⟩
theorem cs_51 : mj_CS TT (mis 51) 1 := ⟨pwTT, t_7_139, t_1_1, ⟨by decide +kernel, by decide +kernel⟩, by decide +kernel⟩
theorem cs_52 : mj_CS TT (mis 52) 0 := ⟨pwTT, t_6_209, t_1_1, ⟨by decide +kernel, by decide +kernel⟩, by decide +kernel⟩
theorem cs_53 : mj_CS TT (mis 53) 1 := ⟨pwTT, t_6_3, t_1_1, ⟨by decide +kernel, by decide +kernel⟩, by decide +kernel⟩
theorem cs_54 : mj_CS TT (mis 54) 1 := ⟨pwTT, t_6_50, t_1_1, ⟨by decide +kernel, by decide +kernel⟩, by decide +kernel⟩
theorem cs_55 : mj_CS TT (mis 55) 3 := ⟨pwTT, t_7_76, t_1_1, ⟨by decide +kernel, by decide +kernel⟩, by decide +kernel⟩
theorem cs_56 : mj_CS TT (mis 56) 1 := ⟨pwTT, t_8_52, t_1_1, ⟨by decide +kernel, by decide +kernel⟩, by decide +kernel⟩
theorem cs_57 : mj_CS TT (mis 57) 2 := ⟨pwTT, t_5_165, t_1_1, ⟨by decide +kernel, by decide +kernel⟩, by decide +kernel⟩
theorem cs_58 : mj_CS TT (mis 58) 3 := ⟨pwTT, t_6_42, t_1_1, ⟨by decide +kernel, by decide +kernel⟩, by decide +kernel⟩
theorem cs_59 : mj_CS TT (mis 59) 4 := ⟨pwTT, t_7_132, t_1_1, ⟨by decide +kernel, by decide +kernel⟩, by decide +kernel⟩
theorem cs_60 : mj_CS TT (mis 60) 3 := ⟨pwTT, t_7_105, t_1_31, ⟨by decide +kernel, by decide +kernel⟩, by decide +kernel⟩
theorem cs_61 : mj_CS TT (mis 61) 1 := ⟨pwTT, t_7_88, t_1_31, ⟨by decide +kernel, by decide +kernel⟩, by decide +kernel⟩
theorem cs_62 : mj_CS TT (mis 62) 2 := ⟨pwTT, t_7_99, t_1_31, ⟨by decide +kernel, by decide +kernel⟩, by decide +kernel⟩
theorem cs_63 : mj_CS TT (mis 63) 2 := ⟨pwTT, t_7_102, t_1_31, ⟨by decide +kernel, by decide +kernel⟩, by decide +kernel⟩
theorem cs_64 : mj_CS TT (mis 64) 0 := ⟨pwTT, t_1_55, t_1_2, ⟨by decide +kernel, by decide +kernel⟩, by decide +kernel⟩
theorem cs_65 : mj_CS TT (mis 65) 3 := ⟨pwTT, t_3_12, t_1_2, ⟨by decide +kernel, by decide +kernel⟩, by decide +kernel⟩
theorem cs_66 : mj_CS TT (mis 66) 0 := ⟨pwTT, t_2_190, t_1_2, ⟨by decide +kernel, by decide +kernel⟩, by decide +kernel⟩
theorem cs_67 : mj_CS TT (mis 67) 4 := ⟨pwTT, t_2_194, t_1_2, ⟨by decide +kernel, by decide +kernel⟩, by decide +kernel⟩
theorem cs_68 : mj_CS TT (mis 68) 0 := ⟨pwTT, t_3_123, t_1_2, ⟨by decide +kernel, by decide +kernel⟩, by decide +kernel⟩
theorem cs_69 : mj_CS TT (mis 69) 2 := ⟨pwTT, t_2_226, t_1_2, ⟨by decide +kernel, by decide +kernel⟩, by decide +kernel⟩
theorem cs_70 : mj_CS TT (mis 70) 1 := ⟨pwTT, t_3_7, t_1_2, ⟨by decide +kernel, by decide +kernel⟩, by decide +kernel⟩
theorem cs_71 : mj_CS TT (mis 71) 1 := ⟨pwTT, t_3_56, t_1_2, ⟨by decide +kernel, by decide +kernel⟩, by decide +kernel⟩
theorem cs_72 : mj_CS TT (mis 72) 1 := ⟨pwTT, t_1_156, t_1_2, ⟨by decide +kernel, by decide +kernel⟩, by decide +kernel⟩
theorem cs_73 : mj_CS TT (mis 73) 0 := ⟨pwTT, t_3_147, t_1_2, ⟨by decide +kernel, by decide +kernel⟩, by decide +kernel⟩
theorem cs_74 : mj_CS TT (mis 74) 2 := ⟨pwTT, t_6_188, t_1_0, ⟨by decide +kernel, by decide +kernel⟩, by decide +kernel⟩
theorem cs_75 : mj_CS TT (mis 75) 2 := ⟨pwTT, t_5_181, t_1_0, ⟨by decide +kernel, by decide +kernel⟩, by decide +kernel⟩
theorem cs_76 : mj_CS TT (mis 76) 3 := ⟨pwTT, t_7_117, t_1_0, ⟨by decide +kernel, by decide +kernel⟩, by decide +kernel⟩
theorem cs_77 : mj_CS TT (mis 77) 3 := ⟨pwTT, t_6_7, t_1_0, ⟨by decide +kernel, by decide +kernel⟩, by decide +kernel⟩
theorem cs_78 : mj_CS TT (mis 78) 5 := ⟨pwTT, t_2_198, t_1_0, ⟨by decide +kernel, by decide +kernel⟩, by decide +kernel⟩
theorem cs_79 : mj_CS TT (mis 79) 2 := ⟨pwTT, t_8_22, t_1_0, ⟨by decide +kernel, by decide +kernel⟩, by decide +kernel⟩
theorem cs_80 : mj_CS TT (mis 80) 2 := ⟨pwTT, t_3_115, t_1_0, ⟨by decide +kernel, by decide +kernel⟩, by decide +kernel⟩
theorem cs_81 : mj_CS TT (mis 81) 6 := ⟨pwTT, t_7_108, t_1_0, ⟨by decide +kernel, by decide +kernel⟩, by decide +kernel⟩
theorem cs_82 : mj_CS TT (mis 82) 3 := ⟨pwTT, t_5_124, t_1_0, ⟨by decide +kernel, by decide +kernel⟩, by decide +kernel⟩
theorem cs_83 : mj_CS TT (mis 83) 5 := ⟨pwTT, t_7_224, t_1_0, ⟨by decide +kernel, by decide +kernel⟩, by decide +kernel⟩
theorem cs_84 : mj_CS TT (mis 84) 6 := ⟨pwTT, t_7_60, t_1_0, ⟨by decide +kernel, by decide +kernel⟩, by decide +kernel⟩
theorem cs_85 : mj_CS TT (mis 85) 4 := ⟨pwTT, t_6_220, t_1_0, ⟨by decide +kernel, by decide +kernel⟩, by decide +kernel⟩
theorem cs_86 : mj_CS TT (mis 86) 4 := ⟨pwTT, t_3_82, t_1_0, ⟨by decide +kernel, by decide +kernel⟩, by decide +kernel⟩
theorem cs_87 : mj_CS TT (mis 87) 4 := ⟨pwTT, t_6_96, t_1_0, ⟨by decide +kernel, by decide +kernel⟩, by decide +kernel⟩
theorem cs_88 : mj_CS TT (mis 88) 2 := ⟨pwTT, t_8_41, t_1_0, ⟨by decide +kernel, by decide +kernel⟩, by decide +kernel⟩
theorem cs_89 : mj_CS TT (mis 89) 6 := ⟨pwTT, t_3_16, t_1_0, ⟨by decide +kernel, by decide +kernel⟩, by decide +kernel⟩
theorem cs_90 : mj_CS TT (mis 90) 2 := ⟨pwTT, t_2_88, t_1_0, ⟨by decide +kernel, by decide +kernel⟩, by decide +kernel⟩
theorem cs_91 : mj_CS TT (mis 91) 3 := ⟨pwTT, t_7_179, t_1_0, ⟨by decide +kernel, by decide +kernel⟩, by decide +kernel⟩
theorem cs_92 : mj_CS TT (mis 92) 3 := ⟨pwTT, t_8_57, t_1_0, ⟨by decide +kernel, by decide +kernel⟩, by decide +kernel⟩
theorem cs_93 : mj_CS TT (mis 93) 3 := ⟨pwTT, t_8_78, t_1_0, ⟨by decide +kernel, by decide +kernel⟩, by decide +kernel⟩
theorem cs_95 : mj_CS TT (mis 95) 3 := ⟨pwTT, t_5_173, t_1_0, ⟨by decide +kernel, by decide +kernel⟩, by decide +kernel⟩
theorem cs_96 : mj_CS TT (mis 96) 2 := ⟨pwTT, t_8_129, t_1_0, ⟨by decide +kernel, by decide +kernel⟩, by decide +kernel⟩
theorem cs_97 : mj_CS TT (mis 97) 3 := ⟨pwTT, t_6_63, t_1_0, ⟨by decide +kernel, by decide +kernel⟩, by decide +kernel⟩
theorem cs_98 : mj_CS TT (mis 98) 2 := ⟨pwTT, t_8_105, t_1_0, ⟨by decide +kernel, by decide +kernel⟩, by decide +kernel⟩
theorem cs_99 : mj_CS TT (mis 99) 4 := ⟨pwTT, t_7_91, t_1_0, ⟨by decide +kernel, by decide +kernel⟩, by decide +kernel⟩
theorem cs_100 : mj_CS TT (mis 100) 4 := ⟨pwTT, t_6_71, t_1_0, ⟨by decide +kernel, by decide +kernel⟩, by decide +kernel⟩
theorem cs_101 : mj_CS TT (mis 101) 4 := ⟨pwTT, t_3_101, t_1_0, ⟨by decide +kernel, by decide +kernel⟩, by decide +kernel⟩
theorem cs_102 : mj_CS TT (mis 102) 7 := ⟨pwTT, t_7_186, t_1_0, ⟨by decide +kernel, by decide +kernel⟩, by decide +kernel⟩
theorem cs_103 : mj_CS TT (mis 103) 3 := ⟨pwTT, t_5_219, t_1_0, ⟨by decide +kernel, by decide +kernel⟩, by decide +kernel⟩
theorem cs_104 : mj_CS TT (mis 104) 4 := ⟨pwTT, t_5_192, t_1_0, ⟨by decide +kernel, by decide +kernel⟩, by decide +kernel⟩
theorem cs_105 : mj_CS TT (mis 105) 3 := ⟨pwTT, t_6_88, t_1_0, ⟨by decide +kernel, by decide +kernel⟩, by decide +kernel⟩
theorem cs_106 : mj_CS TT (mis 106) 5 := ⟨pwTT, t_6_30, t_1_0, ⟨by decide +kernel, by decide +kernel⟩, by decide +kernel⟩
theorem cs_107 : mj_CS TT (mis 107) 6 := ⟨pwTT, t_6_22, t_1_0, ⟨by decide +kernel, by decide +kernel⟩, by decide +kernel⟩
theorem cs_108 : mj_CS TT (mis 108) 2 := ⟨pwTT, t_8_33, t_1_0, ⟨by decide +kernel, by decide +kernel⟩, by decide +kernel⟩
theorem cs_109 : mj_CS TT (mis 109) 5 := ⟨pwTT, t_8_93, t_1_0, ⟨by decide +kernel, by decide +kernel⟩, by decide +kernel⟩
theorem cs_110 : mj_CS TT (mis 110) 3 := ⟨pwTT, t_7_135, t_1_0, ⟨by decide +kernel, by decide +kernel⟩, by decide +kernel⟩
theorem cs_111 : mj_CS TT (mis 111) 2 := ⟨pwTT, t_6_205, t_1_0, ⟨by decide +kernel, by decide +kernel⟩, by decide +kernel⟩
theorem cs_112 : mj_CS TT (mis 112) 3 := ⟨pwTT, t_5_239, t_1_0, ⟨by decide +kernel, by decide +kernel⟩, by decide +kernel⟩
theorem cs_113 : mj_CS TT (mis 113) 3 := ⟨pwTT, t_6_46, t_1_0, ⟨by decide +kernel, by decide +kernel⟩, by decide +kernel⟩
theorem cs_114 : mj_CS TT (mis 114) 5 := ⟨pwTT, t_7_72, t_1_0, ⟨by decide +kernel, by decide +kernel⟩, by decide +kernel⟩
theorem cs_115 : mj_CS TT (mis 115) 3 := ⟨pwTT, t_8_48, t_1_0, ⟨by decide +kernel, by decide +kernel⟩, by decide +kernel⟩
theorem cs_116 : mj_CS TT (mis 116) 4 := ⟨pwTT, t_5_161, t_1_0, ⟨by decide +kernel, by decide +kernel⟩, by decide +kernel⟩
theorem cs_117 : mj_CS TT (mis 117) 5 := ⟨pwTT, t_6_38, t_1_0, ⟨by decide +kernel, by decide +kernel⟩, by decide +kernel⟩
theorem cs_118 : mj_CS TT (mis 118) 6 := ⟨pwTT, t_7_128, t_1_0, ⟨by decide +kernel, by decide +kernel⟩, by decide +kernel⟩
theorem cs_119 : mj_CS TT (mis 119) 0 := ⟨pwTT, t_8_143, t_1_3, ⟨by decide +kernel, by decide +kernel⟩, by decide +kernel⟩
theorem cs_120 : mj_CS TT (mis 120) 1 := ⟨pwTT, t_9_235, t_1_3, ⟨by decide +kernel, by decide +kernel⟩, by decide +kernel⟩
theorem cs_121 : mj_CS TT (mis 121) 0 := ⟨pwTT, t_11_3, t_1_3, ⟨by decide +kernel, by decide +kernel⟩, by decide +kernel⟩
theorem cs_122 : mj_CS TT (mis 122) 0 := ⟨pwTT, t_10_116, t_1_3, ⟨by decide +kernel, by decide +kernel⟩, by decide +kernel⟩
theorem cs_123 : mj_CS TT (mis 123) 2 := ⟨pwTT, t_10_178, t_1_3, ⟨by decide +kernel, by decide +kernel⟩, by decide +kernel⟩
theorem cs_199 : mj_CS TT (mis 199) 1 := ⟨pwTT, t_12_69, t_1_3, ⟨by decide +kernel, by decide +kernel⟩, by decide +kernel⟩
theorem cs_124 : mj_CS TT (mis 124) 1 := ⟨pwTT, t_10_140, t_1_3, ⟨by decide +kernel, by decide +kernel⟩, by decide +kernel⟩
theorem cs_125 : mj_CS TT (mis 125) 3 := ⟨pwTT, t_9_239, t_1_3, ⟨by decide +kernel, by decide +kernel⟩, by decide +kernel⟩
theorem cs_126 : mj_CS TT (mis 126) 0 := ⟨pwTT, t_12_139, t_1_3, ⟨by decide +kernel, by decide +kernel⟩, by decide +kernel⟩
theorem cs_127 : mj_CS TT (mis 127) 1 := ⟨pwTT, t_10_10, t_1_3, ⟨by decide +kernel, by decide +kernel⟩, by decide +kernel⟩
theorem cs_128 : mj_CS TT (mis 128) 0 := ⟨pwTT, t_10_48, t_1_3, ⟨by decide +kernel, by decide +kernel⟩, by decide +kernel⟩
theorem cs_129 : mj_CS TT (mis 129) 4 := ⟨pwTT, t_12_65, t_1_3, ⟨by decide +kernel, by decide +kernel⟩, by decide +kernel⟩
theorem cs_130 : mj_CS TT (mis 130) 1 := ⟨pwTT, t_10_87, t_1_3, ⟨by decide +kernel, by decide +kernel⟩, by decide +kernel⟩
theorem cs_131 : mj_CS TT (mis 131) 3 := ⟨pwTT, t_12_125, t_1_3, ⟨by decide +kernel, by decide +kernel⟩, by decide +kernel⟩
theorem cs_132 : mj_CS TT (mis 132) 4 := ⟨pwTT, t_12_46, t_1_3, ⟨by decide +kernel, by decide +kernel⟩, by decide +kernel⟩
theorem cs_133 : mj_CS TT (mis 133) 2 := ⟨pwTT, t_11_15, t_1_3, ⟨by decide +kernel, by decide +kernel⟩, by decide +kernel⟩
theorem cs_134 : mj_CS TT (mis 134) 2 := ⟨pwTT, t_10_40, t_1_3, ⟨by decide +kernel, by decide +kernel⟩, by decide +kernel⟩
theorem cs_135 : mj_CS TT (mis 135) 2 := ⟨pwTT, t_10_226, t_1_3, ⟨by decide +kernel, by decide +kernel⟩, by decide +kernel⟩
theorem cs_136 : mj_CS TT (mis 136) 0 := ⟨pwTT, t_12_171, t_1_3, ⟨by decide +kernel, by decide +kernel⟩, by decide +kernel⟩
theorem cs_137 : mj_CS TT (mis 137) 4 := ⟨pwTT, t_10_14, t_1_3, ⟨by decide +kernel, by decide +kernel⟩, by decide +kernel⟩
theorem cs_138 : mj_CS TT (mis 138) 0 := ⟨pwTT, t_9_103, t_1_3, ⟨by decide +kernel, by decide +kernel⟩, by decide +kernel⟩
theorem cs_139 : mj_CS TT (mis 139) 0 := ⟨pwTT, t_9_115, t_1_3, ⟨by decide +kernel, by decide +kernel⟩, by decide +kernel⟩
theorem cs_140 : mj_CS TT (mis 140) 1 := ⟨pwTT, t_10_100, t_1_3, ⟨by decide +kernel, by decide +kernel⟩, by decide +kernel⟩
theorem cs_141 : mj_CS TT (mis 141) 1 := ⟨pwTT, t_12_99, t_1_3, ⟨by decide +kernel, by decide +kernel⟩, by decide +kernel⟩
theorem cs_142 : mj_CS TT (mis 142) 3 := ⟨pwTT, t_10_2, t_1_3, ⟨by decide +kernel, by decide +kernel⟩, by decide +kernel⟩
theorem cs_143 : mj_CS TT (mis 143) 1 := ⟨pwTT, t_12_179, t_1_3, ⟨by decide +kernel, by decide +kernel⟩, by decide +kernel⟩
theorem cs_144 : mj_CS TT (mis 144) 1 := ⟨pwTT, t_12_186, t_1_3, ⟨by decide +kernel, by decide +kernel⟩, by decide +kernel⟩
theorem cs_145 : mj_CS TT (mis 145) 1 := ⟨pwTT, t_10_18, t_1_3, ⟨by decide +kernel, by decide +kernel⟩, by decide +kernel⟩
theorem cs_146 : mj_CS TT (mis 146) 1 := ⟨pwTT, t_10_112, t_1_3, ⟨by decide +kernel, by decide +kernel⟩, by decide +kernel⟩
theorem cs_147 : mj_CS TT (mis 147) 2 := ⟨pwTT, t_11_19, t_1_3, ⟨by decide +kernel, by decide +kernel⟩, by decide +kernel⟩
theorem cs_148 : mj_CS TT (mis 148) 0 := ⟨pwTT, t_12_206, t_1_3, ⟨by decide +kernel, by decide +kernel⟩, by decide +kernel⟩
theorem cs_149 : mj_CS TT (mis 149) 2 := ⟨pwTT, t_9_107, t_1_3, ⟨by decide +kernel, by decide +kernel⟩, by decide +kernel⟩
theorem cs_150 : mj_CS TT (mis 150) 0 := ⟨pwTT, t_12_194, t_1_3, ⟨by decide +kernel, by decide +kernel⟩, by decide +kernel⟩
theorem cs_151 : mj_CS TT (mis 151) 1 := ⟨pwTT, t_10_108, t_1_3, ⟨by decide +kernel, by decide +kernel⟩, by decide +kernel⟩
theorem cs_152 : mj_CS TT (mis 152) 0 := ⟨pwTT, t_12_202, t_1_3, ⟨by decide +kernel, by decide +kernel⟩, by decide +kernel⟩
theorem cs_153 : mj_CS TT (mis 153) 0 := ⟨pwTT, t_10_203, t_1_3, ⟨by decide +kernel, by decide +kernel⟩, by decide +kernel⟩
theorem cs_154 : mj_CS TT (mis 154) 1 := ⟨pwTT, t_10_199, t_1_3, ⟨by decide +kernel, by decide +kernel⟩, by decide +kernel⟩
theorem cs_155 : mj_CS TT (mis 155) 0 := ⟨pwTT, t_12_198, t_1_3, ⟨by decide +kernel, by decide +kernel⟩, by decide +kernel⟩
theorem cs_156 : mj_CS TT (mis 156) 2 := ⟨pwTT, t_10_6, t_1_3, ⟨by decide +kernel, by decide +kernel⟩, by decide +kernel⟩
theorem cs_157 : mj_CS TT (mis 157) 2 := ⟨pwTT, t_12_58, t_1_3, ⟨by decide +kernel, by decide +kernel⟩, by decide +kernel⟩
theorem cs_158 : mj_CS TT (mis 158) 5 := ⟨pwTT, t_12_61, t_1_3, ⟨by decide +kernel, by decide +kernel⟩, by decide +kernel⟩
theorem cs_159 : mj_CS TT (mis 159) 2 := ⟨pwTT, t_10_211, t_1_3, ⟨by decide +kernel, by decide +kernel⟩, by decide +kernel⟩
theorem cs_160 : mj_CS TT (mis 160) 2 := ⟨pwTT, t_10_44, t_1_3, ⟨by decide +kernel, by decide +kernel⟩, by decide +kernel⟩
theorem cs_161 : mj_CS TT (mis 161) 5 := ⟨pwTT, t_12_103, t_1_3, ⟨by decide +kernel, by decide +kernel⟩, by decide +kernel⟩
theorem cs_162 : mj_CS TT (mis 162) 1 := ⟨pwTT, t_10_124, t_1_3, ⟨by decide +kernel, by decide +kernel⟩, by decide +kernel⟩
theorem cs_163 : mj_CS TT (mis 163) 0 := ⟨pwTT, t_10_207, t_1_3, ⟨by decide +kernel, by decide +kernel⟩, by decide +kernel⟩
theorem cs_164 : mj_CS TT (mis 164) 2 := ⟨pwTT, t_10_120, t_1_3, ⟨by decide +kernel, by decide +kernel⟩, by decide +kernel⟩
theorem cs_165 : mj_CS TT (mis 165) 1 := ⟨pwTT, t_10_222, t_1_3, ⟨by decide +kernel, by decide +kernel⟩, by decide +kernel⟩
theorem cs_166 : mj_CS TT (mis 166) 3 := ⟨pwTT, t_10_174, t_1_3, ⟨by decide +kernel, by decide +kernel⟩, by decide +kernel⟩
theorem cs_167 : mj_CS TT (mis 167) 4 := ⟨pwTT, t_10_152, t_1_3, ⟨by decide +kernel, by decide +kernel⟩, by decide +kernel⟩
theorem cs_168 : mj_CS TT (mis 168) 0 := ⟨pwTT, t_12_143, t_1_3, ⟨by decide +kernel, by decide +kernel⟩, by decide +kernel⟩
theorem cs_169 : mj_CS TT (mis 169) 3 := ⟨pwTT, t_12_190, t_1_3, ⟨by decide +kernel, by decide +kernel⟩, by decide +kernel⟩
theorem cs_170 : mj_CS TT (mis 170) 1 := ⟨pwTT, t_12_81, t_1_3, ⟨by decide +kernel, by decide +kernel⟩, by decide +kernel⟩
theorem cs_171 : mj_CS TT (mis 171) 0 := ⟨pwTT, t_11_11, t_1_3, ⟨by decide +kernel, by decide +kernel⟩, by decide +kernel⟩
theorem cs_172 : mj_CS TT (mis 172) 1 := ⟨pwTT, t_10_132, t_1_3, ⟨by decide +kernel, by decide +kernel⟩, by decide +kernel⟩
theorem cs_173 : mj_CS TT (mis 173) 1 := ⟨pwTT, t_10_187, t_1_3, ⟨by decide +kernel, by decide +kernel⟩, by decide +kernel⟩
theorem cs_174 : mj_CS TT (mis 174) 3 := ⟨pwTT, t_12_50, t_1_3, ⟨by decide +kernel, by decide +kernel⟩, by decide +kernel⟩
theorem cs_175 : mj_CS TT (mis 175) 0 := ⟨pwTT, t_9_99, t_1_3, ⟨by decide +kernel, by decide +kernel⟩, by decide +kernel⟩
theorem cs_176 : mj_CS TT (mis 176) 1 := ⟨pwTT, t_12_175, t_1_3, ⟨by decide +kernel, by decide +kernel⟩, by decide +kernel⟩
theorem cs_177 : mj_CS TT (mis 177) 2 := ⟨pwTT, t_10_96, t_1_3, ⟨by decide +kernel, by decide +kernel⟩, by decide +kernel⟩
theorem cs_178 : mj_CS TT (mis 178) 3 := ⟨pwTT, t_10_183, t_1_3, ⟨by decide +kernel, by decide +kernel⟩, by decide +kernel⟩
theorem cs_179 : mj_CS TT (mis 179) 4 := ⟨pwTT, t_12_77, t_1_3, ⟨by decide +kernel, by decide +kernel⟩, by decide +kernel⟩
theorem cs_180 : mj_CS TT (mis 180) 4 := ⟨pwTT, t_12_73, t_1_3, ⟨by decide +kernel, by decide +kernel⟩, by decide +kernel⟩
theorem cs_181 : mj_CS TT (mis 181) 7 := ⟨pwTT, t_9_177, t_1_18, ⟨by decide +kernel, by decide +kernel⟩, by decide +kernel⟩
theorem cs_183 : mj_CS TT (mis 183) 0 := ⟨pwTT, t_8_155, t_1_4, ⟨by decide +kernel, by decide +kernel⟩, by decide +kernel⟩
theorem cs_184 : mj_CS TT (mis 184) 0 := ⟨pwTT, t_8_152, t_1_5, ⟨by decide +kernel, by decide +kernel⟩, by decide +kernel⟩
theorem cs_185 : mj_CS TT (mis 185) 0 := ⟨pwTT, t_8_149, t_1_6, ⟨by decide +kernel, by decide +kernel⟩, by decide +kernel⟩
theorem cs_186 : mj_CS TT (mis 186) 1 := ⟨pwTT, t_8_181, t_1_6, ⟨by decide +kernel, by decide +kernel⟩, by decide +kernel⟩
theorem cs_187 : mj_CS TT (mis 187) 3 := ⟨pwTT, t_8_185, t_1_6, ⟨by decide +kernel, by decide +kernel⟩, by decide +kernel⟩
theorem cs_188 : mj_CS TT (mis 188) 1 := ⟨pwTT, t_10_32, t_1_6, ⟨by decide +kernel, by decide +kernel⟩, by decide +kernel⟩
theorem cs_189 : mj_CS TT (mis 189) 1 := ⟨pwTT, t_10_22, t_1_6, ⟨by decide +kernel, by decide +kernel⟩, by decide +kernel⟩
theorem cs_190 : mj_CS TT (mis 190) 0 := ⟨pwTT, t_8_189, t_1_6, ⟨by decide +kernel, by decide +kernel⟩, by decide +kernel⟩
theorem cs_191 : mj_CS TT (mis 191) 1 := ⟨pwTT, t_8_193, t_1_6, ⟨by decide +kernel, by decide +kernel⟩, by decide +kernel⟩
theorem cs_192 : mj_CS TT (mis 192) 0 := ⟨pwTT, t_10_52, t_1_6, ⟨by decide +kernel, by decide +kernel⟩, by decide +kernel⟩
theorem cs_193 : mj_CS TT (mis 193) 0 := ⟨pwTT, t_9_119, t_1_6, ⟨by decide +kernel, by decide +kernel⟩, by decide +kernel⟩
theorem cs_194 : mj_CS TT (mis 194) 0 := ⟨pwTT, t_9_111, t_1_6, ⟨by decide +kernel, by decide +kernel⟩, by decide +kernel⟩
theorem cs_195 : mj_CS TT (mis 195) 1 := ⟨pwTT, t_9_124, t_1_16, ⟨by decide +kernel, by decide +kernel⟩, by decide +kernel⟩
theorem cs_196 : mj_CS TT (mis 196) 0 := ⟨pwTT, t_9_148, t_1_16, ⟨by decide +kernel, by decide +kernel⟩, by decide +kernel⟩
theorem cs_197 : mj_CS TT (mis 197) 2 := ⟨pwTT, t_10_25, t_1_23, ⟨by decide +kernel, by decide +kernel⟩, by decide +kernel⟩
theorem cs_198 : mj_CS TT (mis 198) 3 := ⟨pwTT, t_10_28, t_1_24, ⟨by decide +kernel, by decide +kernel⟩, by decide +kernel⟩
def ncs : List (String × String) := [("java/lang/UnsupportedOperationException", "java/lang/IndexOutOfBoundsException"), ("java/lang/UnsupportedOperationException", "java/lang/IllegalArgumentException"), ("java/lang/IllegalArgumentException", "java/lang/IndexOutOfBoundsException"), ("java/lang/IndexOutOfBoundsException", "java/lang/IllegalArgumentException"), ("java/lang/ArithmeticException", "java/lang/UnsupportedOperationException"), ("java/lang/IllegalArgumentException", "java/lang/UnsupportedOperationException")]
def strs : List (String × Nat × String) := [("Miterhouse", 114, "data or outputs are missing"), ("Miterhouse", 74, "no such kind"), ("Miterhouse", 384, "no lines"), ("Miterhouse", 396, "the nets are not closed"), ("Miterhouse", 403, "no such line"), ("Miterhouse", 420, "a number is out of range")]
def mj_XN (X : XT) (E nm : String) : Prop := ∀ (A : Nat → Prop) (sp : Nat → Nat) (U : State) (H : Heap), X A sp U H → va_Nc E nm U
/-- what the start gives -/
def HX (X : XT) (ρ : Nat → Int32) (t9 : Nat) : Prop :=
  mj_XOK X ∧ mj_XT X ∧ mj_XZ X 3 "java/util/ArrayList" "DEFAULTCAPACITY_EMPTY_ELEMENTDATA" "[Ljava/lang/Object;" ∧ mj_XF X "java/util/ArrayList$Itr" ⟨"java/util/Iterator", "hasNext", "()Z"⟩ ⟨"java/util/ArrayList$Itr", "hasNext", "()Z"⟩ ∧
  (∀ q ∈ ncs, mj_XN X q.1 q.2) ∧ (∀ q ∈ strs, mj_XS X q.1 q.2.1 q.2.2) ∧ kLen TT cl6 X ρ slen ∧ kScr X ρ ∧ sDV ρ sdv ∧
  kMul TT cl6 X (mis 119) 79 [.int (Int32.ofInt 4), .int (Int32.ofInt 4), .int (Int32.ofInt 2)] mulN 11 42 ∧
  mj_XZ X 2 "Miterhouse" "HIGH_HALVES" "[J" ∧ mj_XA X 2 .long 6 (fun j => .long (hhv j)) ∧ lrho ρ t9 ∧ t9 = (ρ 2).toUInt32.toNat % 65536
variable {X : XT} {ρ : Nat → Int32} {t9 : Nat}
theorem hx_ok (h : HX X ρ t9) : mj_XOK X := h.1
theorem hx_t (h : HX X ρ t9) : mj_XT X := h.2.1
theorem hx_z (h : HX X ρ t9) : mj_XZ X 3 "java/util/ArrayList" "DEFAULTCAPACITY_EMPTY_ELEMENTDATA" "[Ljava/lang/Object;" := h.2.2.1
theorem hx_f (h : HX X ρ t9) : mj_XF X "java/util/ArrayList$Itr" ⟨"java/util/Iterator", "hasNext", "()Z"⟩ ⟨"java/util/ArrayList$Itr", "hasNext", "()Z"⟩ := h.2.2.2.1
theorem hx_nc (h : HX X ρ t9) (i : Nat) {E nm : String} (e : ncs[i]? = some (E, nm)) : mj_XN X E nm := h.2.2.2.2.1 _ (List.mem_of_getElem? e)
theorem hx_s (h : HX X ρ t9) (i : Nat) {own tx : String} {k : Nat} (e : strs[i]? = some (own, k, tx)) : mj_XS X own k tx := h.2.2.2.2.2.1 _ (List.mem_of_getElem? e)
theorem hx_len (h : HX X ρ t9) : kLen TT cl6 X ρ slen := h.2.2.2.2.2.2.1
theorem hx_scr (h : HX X ρ t9) : kScr X ρ := h.2.2.2.2.2.2.2.1
theorem hx_dv (h : HX X ρ t9) : sDV ρ sdv := h.2.2.2.2.2.2.2.2.1
theorem hx_mul (h : HX X ρ t9) : kMul TT cl6 X (mis 119) 79 [.int (Int32.ofInt 4), .int (Int32.ofInt 4), .int (Int32.ofInt 2)] mulN 11 42 := h.2.2.2.2.2.2.2.2.2.1
theorem hx_z2 (h : HX X ρ t9) : mj_XZ X 2 "Miterhouse" "HIGH_HALVES" "[J" := h.2.2.2.2.2.2.2.2.2.2.1
theorem hx_hh (h : HX X ρ t9) : mj_XA X 2 .long 6 (fun j => .long (hhv j)) := h.2.2.2.2.2.2.2.2.2.2.2.1
theorem hx_lr (h : HX X ρ t9) : lrho ρ t9 := h.2.2.2.2.2.2.2.2.2.2.2.2.1
theorem hx_t9 (h : HX X ρ t9) : t9 = (ρ 2).toUInt32.toNat % 65536 := h.2.2.2.2.2.2.2.2.2.2.2.2.2
theorem t_lf {m n k : Nat} {o f : Op} {r : Option Op} (h : cond (Nat.beq n k) (some o) r = some f) (h1 : opOK TT cl6 X mis en ρ m k o) (h2 : r = some f → opOK TT cl6 X mis en ρ m n f) : opOK TT cl6 X mis en ρ m n f := by
  cases e : Nat.beq n k with
  | true => rw [e] at h; cases h; rw [Nat.eq_of_beq_eq_true e]; exact h1
  | false => rw [e] at h; exact h2 h
theorem t_no {f : Op} {p : Prop} (h : (none : Option Op) = some f) : p := by cases h
theorem t_br {Q : Prop} {c : Bool} {a b : Option Op} {f : Op} (h : cond c a b = some f) (h1 : a = some f → Q) (h2 : b = some f → Q) : Q := by
  cases c with
  | true => exact h1 h
  | false => exact h2 h
theorem hdN_ok {m pc : Nat} (hm : (mis m).2.2.2.2 = []) : ∀ (E : Nat) (o : Option Nat), hdN E = some o → ∀ (fr lo : Nat) (P : Option Value → mH → Prop) (PX : String → mH → Prop) (kc ks : Nat) (L : List (Nat × Value)) (M : mH), match o with
      | some h => LX TT cl6 X (mis m) fr lo P PX kc ks h L [.retAddr 0] M → LT TT cl6 X (mis m) fr lo P PX kc ks pc L (en E) M
      | none => PX (en E) M → LT TT cl6 X (mis m) fr lo P PX kc ks pc L (en E) M := by
  intro E o ho
  cases ho
  intro fr lo P PX kc ks L M hP
  exact lt_out (by rw [hm]; exact fun x h => absurd h List.not_mem_nil) hP
def cgt (X : XT) (m pc E h : Nat) : Prop := ∀ (fr lo : Nat) (P : Option Value → mH → Prop) (PX : String → mH → Prop) (kc ks : Nat) (L : List (Nat × Value)) (M : mH),
  LX TT cl6 X (mis m) fr lo P PX kc ks h L [.retAddr 0] M → LT TT cl6 X (mis m) fr lo P PX kc ks pc L (en E) M
theorem hdT_ok {m pc : Nat} {a b c d : Option Nat} (ha : ∀ h, a = some h → cgt X m pc 0 h) (hb : ∀ h, b = some h → cgt X m pc 1 h) (hc : ∀ h, c = some h → cgt X m pc 2 h) (hd : ∀ h, d = some h → cgt X m pc 3 h) : ∀ (E : Nat) (o : Option Nat), hdT a b c d E = some o → ∀ (fr lo : Nat) (P : Option Value → mH → Prop) (PX : String → mH → Prop) (kc ks : Nat) (L : List (Nat × Value)) (M : mH), match o with
      | some h => LX TT cl6 X (mis m) fr lo P PX kc ks h L [.retAddr 0] M → LT TT cl6 X (mis m) fr lo P PX kc ks pc L (en E) M
      | none => PX (en E) M → LT TT cl6 X (mis m) fr lo P PX kc ks pc L (en E) M := by
  have key : ∀ (a : Option Nat) (E : Nat) (o : Option Nat), (∀ h, a = some h → cgt X m pc E h) → a.map some = some o → ∀ (fr lo : Nat) (P : Option Value → mH → Prop) (PX : String → mH → Prop) (kc ks : Nat) (L : List (Nat × Value)) (M : mH), match o with
      | some h => LX TT cl6 X (mis m) fr lo P PX kc ks h L [.retAddr 0] M → LT TT cl6 X (mis m) fr lo P PX kc ks pc L (en E) M
      | none => PX (en E) M → LT TT cl6 X (mis m) fr lo P PX kc ks pc L (en E) M := by
    intro a E o ha h
    cases a with
    | none => cases h
    | some x => cases h; exact ha x rfl
  intro E o ho
  match E, ho with
  | 0, ho => exact key a 0 o ha ho
  | 1, ho => exact key b 1 o hb ho
  | 2, ho => exact key c 2 o hc ho
  | 3, ho => exact key d 3 o hd ho
  | E + 4, ho => cases ho
theorem caught {m pc E h : Nat} {pre : List ExceptionTableEntry} {x : ExceptionTableEntry} {suf : List ExceptionTableEntry} {name : String} (hsplit : tableOf (mis m).2.2.2.2 = pre ++ x :: suf)
    (hpass : ∀ z ∈ pre, covers z pc = false ∨ (z.catchType ≠ 0 ∧ ∃ nm : String, Cond.classLink (mis m).1.cls z.catchType nm ∈ TT ∧ mj_XN X (en E) nm)) (hx : covers x pc = true) (h0 : x.catchType ≠ 0) (hh : x.handlerPc = h)
    (hlink : Cond.classLink (mis m).1.cls x.catchType name ∈ TT) (hcast : Cond.castable (en E) name ∈ TT) : cgt X m pc E h := by
  subst hh
  intro fr lo P PX kc ks L M k
  exact lt_catch pre x suf hsplit hpass hx h0 hlink hcast k
end HX1
