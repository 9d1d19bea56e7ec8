section RW7
variable {X : XT} {L9 : Nat} {xs : Nat → Int32}
theorem d_W_law_0 : decode mi_W_law.2.1 0 = .ok (.new 10, 3) := by decide +kernel
theorem d_W_law_3 : decode mi_W_law.2.1 3 = .ok (.dup, 1) := by decide +kernel
theorem d_W_law_4 : decode mi_W_law.2.1 4 = .ok (.invokespecial 144, 3) := by decide +kernel
theorem d_W_law_7 : decode mi_W_law.2.1 7 = .ok (.astore_n 1, 1) := by decide +kernel
theorem d_W_law_8 : decode mi_W_law.2.1 8 = .ok (.aload_n 1, 1) := by decide +kernel
theorem d_W_law_9 : decode mi_W_law.2.1 9 = .ok (.invokestatic 129, 3) := by decide +kernel
theorem d_W_law_12 : decode mi_W_law.2.1 12 = .ok (.ldc 17, 2) := by decide +kernel
theorem d_W_law_14 : decode mi_W_law.2.1 14 = .ok (.if_icmp .ne (135), 3) := by decide +kernel
theorem d_W_law_17 : decode mi_W_law.2.1 17 = .ok (.aload_n 1, 1) := by decide +kernel
theorem d_W_law_18 : decode mi_W_law.2.1 18 = .ok (.iconst (2), 1) := by decide +kernel
theorem d_W_law_19 : decode mi_W_law.2.1 19 = .ok (.iconst (0), 1) := by decide +kernel
theorem d_W_law_20 : decode mi_W_law.2.1 20 = .ok (.iconst (0), 1) := by decide +kernel
theorem d_W_law_21 : decode mi_W_law.2.1 21 = .ok (.invokestatic 123, 3) := by decide +kernel
theorem d_W_law_24 : decode mi_W_law.2.1 24 = .ok (.ldc 17, 2) := by decide +kernel
theorem d_W_law_26 : decode mi_W_law.2.1 26 = .ok (.if_icmp .ne (123), 3) := by decide +kernel
theorem d_W_law_29 : decode mi_W_law.2.1 29 = .ok (.aload_n 1, 1) := by decide +kernel
theorem d_W_law_30 : decode mi_W_law.2.1 30 = .ok (.iconst (0), 1) := by decide +kernel
theorem d_W_law_31 : decode mi_W_law.2.1 31 = .ok (.bipush (121), 2) := by decide +kernel
theorem d_W_law_33 : decode mi_W_law.2.1 33 = .ok (.iconst (0), 1) := by decide +kernel
theorem d_W_law_34 : decode mi_W_law.2.1 34 = .ok (.iconst (0), 1) := by decide +kernel
theorem d_W_law_35 : decode mi_W_law.2.1 35 = .ok (.invokestatic 126, 3) := by decide +kernel
theorem d_W_law_38 : decode mi_W_law.2.1 38 = .ok (.ldc 17, 2) := by decide +kernel
theorem d_W_law_40 : decode mi_W_law.2.1 40 = .ok (.if_icmp .ne (109), 3) := by decide +kernel
theorem d_W_law_43 : decode mi_W_law.2.1 43 = .ok (.aload_n 1, 1) := by decide +kernel
theorem d_W_law_44 : decode mi_W_law.2.1 44 = .ok (.iconst (0), 1) := by decide +kernel
theorem d_W_law_45 : decode mi_W_law.2.1 45 = .ok (.bipush (97), 2) := by decide +kernel
theorem d_W_law_47 : decode mi_W_law.2.1 47 = .ok (.iconst (0), 1) := by decide +kernel
theorem d_W_law_48 : decode mi_W_law.2.1 48 = .ok (.iconst (0), 1) := by decide +kernel
theorem d_W_law_49 : decode mi_W_law.2.1 49 = .ok (.invokestatic 126, 3) := by decide +kernel
theorem d_W_law_52 : decode mi_W_law.2.1 52 = .ok (.ldc 20, 2) := by decide +kernel
theorem d_W_law_54 : decode mi_W_law.2.1 54 = .ok (.if_icmp .ne (95), 3) := by decide +kernel
theorem d_W_law_57 : decode mi_W_law.2.1 57 = .ok (.aload_n 1, 1) := by decide +kernel
theorem d_W_law_58 : decode mi_W_law.2.1 58 = .ok (.iconst (2), 1) := by decide +kernel
theorem d_W_law_59 : decode mi_W_law.2.1 59 = .ok (.iconst (0), 1) := by decide +kernel
theorem d_W_law_60 : decode mi_W_law.2.1 60 = .ok (.invokestatic 134, 3) := by decide +kernel
theorem d_W_law_63 : decode mi_W_law.2.1 63 = .ok (.ldc 17, 2) := by decide +kernel
theorem d_W_law_65 : decode mi_W_law.2.1 65 = .ok (.if_icmp .ne (84), 3) := by decide +kernel
theorem d_W_law_68 : decode mi_W_law.2.1 68 = .ok (.aload_n 1, 1) := by decide +kernel
theorem d_W_law_69 : decode mi_W_law.2.1 69 = .ok (.iconst (0), 1) := by decide +kernel
theorem d_W_law_70 : decode mi_W_law.2.1 70 = .ok (.iconst (0), 1) := by decide +kernel
theorem d_W_law_71 : decode mi_W_law.2.1 71 = .ok (.invokestatic 134, 3) := by decide +kernel
theorem d_W_law_74 : decode mi_W_law.2.1 74 = .ok (.ldc 20, 2) := by decide +kernel
theorem d_W_law_76 : decode mi_W_law.2.1 76 = .ok (.if_icmp .ne (73), 3) := by decide +kernel
theorem d_W_law_79 : decode mi_W_law.2.1 79 = .ok (.aload_n 1, 1) := by decide +kernel
theorem d_W_law_80 : decode mi_W_law.2.1 80 = .ok (.iconst (0), 1) := by decide +kernel
theorem d_W_law_81 : decode mi_W_law.2.1 81 = .ok (.iconst (0), 1) := by decide +kernel
theorem d_W_law_82 : decode mi_W_law.2.1 82 = .ok (.invokestatic 131, 3) := by decide +kernel
theorem d_W_law_85 : decode mi_W_law.2.1 85 = .ok (.ldc 17, 2) := by decide +kernel
theorem d_W_law_87 : decode mi_W_law.2.1 87 = .ok (.if_icmp .ne (62), 3) := by decide +kernel
theorem d_W_law_90 : decode mi_W_law.2.1 90 = .ok (.aload_n 1, 1) := by decide +kernel
theorem d_W_law_91 : decode mi_W_law.2.1 91 = .ok (.iconst (0), 1) := by decide +kernel
theorem d_W_law_92 : decode mi_W_law.2.1 92 = .ok (.invokestatic 145, 3) := by decide +kernel
theorem d_W_law_95 : decode mi_W_law.2.1 95 = .ok (.ldc 17, 2) := by decide +kernel
theorem d_W_law_97 : decode mi_W_law.2.1 97 = .ok (.if_icmp .ne (52), 3) := by decide +kernel
theorem d_W_law_100 : decode mi_W_law.2.1 100 = .ok (.aload_n 1, 1) := by decide +kernel
theorem d_W_law_101 : decode mi_W_law.2.1 101 = .ok (.invokestatic 148, 3) := by decide +kernel
theorem d_W_law_104 : decode mi_W_law.2.1 104 = .ok (.ldc 17, 2) := by decide +kernel
theorem d_W_law_106 : decode mi_W_law.2.1 106 = .ok (.if_icmp .ne (43), 3) := by decide +kernel
theorem d_W_law_109 : decode mi_W_law.2.1 109 = .ok (.aload_n 1, 1) := by decide +kernel
theorem d_W_law_110 : decode mi_W_law.2.1 110 = .ok (.iconst (0), 1) := by decide +kernel
theorem d_W_law_111 : decode mi_W_law.2.1 111 = .ok (.invokestatic 150, 3) := by decide +kernel
theorem d_W_law_114 : decode mi_W_law.2.1 114 = .ok (.ldc 17, 2) := by decide +kernel
theorem d_W_law_116 : decode mi_W_law.2.1 116 = .ok (.if_icmp .ne (33), 3) := by decide +kernel
theorem d_W_law_119 : decode mi_W_law.2.1 119 = .ok (.aload_n 1, 1) := by decide +kernel
theorem d_W_law_120 : decode mi_W_law.2.1 120 = .ok (.iconst (1), 1) := by decide +kernel
theorem d_W_law_121 : decode mi_W_law.2.1 121 = .ok (.invokestatic 150, 3) := by decide +kernel
theorem d_W_law_124 : decode mi_W_law.2.1 124 = .ok (.ldc 20, 2) := by decide +kernel
theorem d_W_law_126 : decode mi_W_law.2.1 126 = .ok (.if_icmp .ne (23), 3) := by decide +kernel
theorem d_W_law_129 : decode mi_W_law.2.1 129 = .ok (.aload_n 1, 1) := by decide +kernel
theorem d_W_law_130 : decode mi_W_law.2.1 130 = .ok (.invokestatic 152, 3) := by decide +kernel
theorem d_W_law_133 : decode mi_W_law.2.1 133 = .ok (.ldc 17, 2) := by decide +kernel
theorem d_W_law_135 : decode mi_W_law.2.1 135 = .ok (.if_icmp .ne (14), 3) := by decide +kernel
theorem d_W_law_138 : decode mi_W_law.2.1 138 = .ok (.aload_n 1, 1) := by decide +kernel
theorem d_W_law_139 : decode mi_W_law.2.1 139 = .ok (.invokevirtual 154, 3) := by decide +kernel
theorem d_W_law_142 : decode mi_W_law.2.1 142 = .ok (.ifCond .ne (7), 3) := by decide +kernel
theorem d_W_law_145 : decode mi_W_law.2.1 145 = .ok (.iconst (1), 1) := by decide +kernel
theorem d_W_law_146 : decode mi_W_law.2.1 146 = .ok (.goto (4), 3) := by decide +kernel
theorem d_W_law_149 : decode mi_W_law.2.1 149 = .ok (.iconst (0), 1) := by decide +kernel
theorem d_W_law_150 : decode mi_W_law.2.1 150 = .ok (.istore_n 2, 1) := by decide +kernel
theorem d_W_law_151 : decode mi_W_law.2.1 151 = .ok (.iconst (1), 1) := by decide +kernel
theorem d_W_law_152 : decode mi_W_law.2.1 152 = .ok (.aload_n 0, 1) := by decide +kernel
theorem d_W_law_153 : decode mi_W_law.2.1 153 = .ok (.iconst (0), 1) := by decide +kernel
theorem d_W_law_154 : decode mi_W_law.2.1 154 = .ok (.iconst (3), 1) := by decide +kernel
theorem d_W_law_155 : decode mi_W_law.2.1 155 = .ok (.invokestatic 104, 3) := by decide +kernel
theorem d_W_law_158 : decode mi_W_law.2.1 158 = .ok (.iadd, 1) := by decide +kernel
theorem d_W_law_159 : decode mi_W_law.2.1 159 = .ok (.istore_n 3, 1) := by decide +kernel
theorem d_W_law_160 : decode mi_W_law.2.1 160 = .ok (.aload_n 0, 1) := by decide +kernel
theorem d_W_law_161 : decode mi_W_law.2.1 161 = .ok (.iconst (1), 1) := by decide +kernel
theorem d_W_law_162 : decode mi_W_law.2.1 162 = .ok (.iconst (3), 1) := by decide +kernel
theorem d_W_law_163 : decode mi_W_law.2.1 163 = .ok (.invokestatic 104, 3) := by decide +kernel
theorem d_W_law_166 : decode mi_W_law.2.1 166 = .ok (.istore 4, 2) := by decide +kernel
theorem d_W_law_168 : decode mi_W_law.2.1 168 = .ok (.aload_n 0, 1) := by decide +kernel
theorem d_W_law_169 : decode mi_W_law.2.1 169 = .ok (.iload_n 3, 1) := by decide +kernel
theorem d_W_law_170 : decode mi_W_law.2.1 170 = .ok (.iload 4, 2) := by decide +kernel
theorem d_W_law_172 : decode mi_W_law.2.1 172 = .ok (.bipush (8), 2) := by decide +kernel
theorem d_W_law_174 : decode mi_W_law.2.1 174 = .ok (.aload_n 0, 1) := by decide +kernel
theorem d_W_law_175 : decode mi_W_law.2.1 175 = .ok (.iconst (2), 1) := by decide +kernel
theorem d_W_law_176 : decode mi_W_law.2.1 176 = .ok (.bipush (9), 2) := by decide +kernel
theorem d_W_law_178 : decode mi_W_law.2.1 178 = .ok (.invokestatic 104, 3) := by decide +kernel
theorem d_W_law_181 : decode mi_W_law.2.1 181 = .ok (.iadd, 1) := by decide +kernel
theorem d_W_law_182 : decode mi_W_law.2.1 182 = .ok (.invokestatic 157, 3) := by decide +kernel
theorem d_W_law_185 : decode mi_W_law.2.1 185 = .ok (.astore 5, 2) := by decide +kernel
theorem d_W_law_187 : decode mi_W_law.2.1 187 = .ok (.iload_n 3, 1) := by decide +kernel
theorem d_W_law_188 : decode mi_W_law.2.1 188 = .ok (.iconst (2), 1) := by decide +kernel
theorem d_W_law_189 : decode mi_W_law.2.1 189 = .ok (.iload 4, 2) := by decide +kernel
theorem d_W_law_191 : decode mi_W_law.2.1 191 = .ok (.imul, 1) := by decide +kernel
theorem d_W_law_192 : decode mi_W_law.2.1 192 = .ok (.iadd, 1) := by decide +kernel
theorem d_W_law_193 : decode mi_W_law.2.1 193 = .ok (.istore 6, 2) := by decide +kernel
theorem d_W_law_195 : decode mi_W_law.2.1 195 = .ok (.aload 5, 2) := by decide +kernel
theorem d_W_law_197 : decode mi_W_law.2.1 197 = .ok (.arraylength, 1) := by decide +kernel
theorem d_W_law_198 : decode mi_W_law.2.1 198 = .ok (.newarray .int, 2) := by decide +kernel
theorem d_W_law_200 : decode mi_W_law.2.1 200 = .ok (.astore 7, 2) := by decide +kernel
theorem d_W_law_202 : decode mi_W_law.2.1 202 = .ok (.iconst (2), 1) := by decide +kernel
theorem d_W_law_203 : decode mi_W_law.2.1 203 = .ok (.iconst (1), 1) := by decide +kernel
theorem d_W_law_204 : decode mi_W_law.2.1 204 = .ok (.aload_n 0, 1) := by decide +kernel
theorem d_W_law_205 : decode mi_W_law.2.1 205 = .ok (.iconst (3), 1) := by decide +kernel
theorem d_W_law_206 : decode mi_W_law.2.1 206 = .ok (.iconst (2), 1) := by decide +kernel
theorem d_W_law_207 : decode mi_W_law.2.1 207 = .ok (.invokestatic 104, 3) := by decide +kernel
theorem d_W_law_210 : decode mi_W_law.2.1 210 = .ok (.iadd, 1) := by decide +kernel
theorem d_W_law_211 : decode mi_W_law.2.1 211 = .ok (.multianewarray 161 2, 4) := by decide +kernel
theorem d_W_law_215 : decode mi_W_law.2.1 215 = .ok (.astore 8, 2) := by decide +kernel
theorem d_W_law_217 : decode mi_W_law.2.1 217 = .ok (.iload_n 2, 1) := by decide +kernel
theorem d_W_law_218 : decode mi_W_law.2.1 218 = .ok (.aload_n 1, 1) := by decide +kernel
theorem d_W_law_219 : decode mi_W_law.2.1 219 = .ok (.aload_n 0, 1) := by decide +kernel
theorem d_W_law_220 : decode mi_W_law.2.1 220 = .ok (.aload 5, 2) := by decide +kernel
theorem d_W_law_222 : decode mi_W_law.2.1 222 = .ok (.aload 7, 2) := by decide +kernel
theorem d_W_law_224 : decode mi_W_law.2.1 224 = .ok (.aload 8, 2) := by decide +kernel
theorem d_W_law_226 : decode mi_W_law.2.1 226 = .ok (.invokestatic 163, 3) := by decide +kernel
theorem d_W_law_229 : decode mi_W_law.2.1 229 = .ok (.iand, 1) := by decide +kernel
theorem d_W_law_230 : decode mi_W_law.2.1 230 = .ok (.istore_n 2, 1) := by decide +kernel
theorem d_W_law_231 : decode mi_W_law.2.1 231 = .ok (.iconst (1), 1) := by decide +kernel
theorem d_W_law_232 : decode mi_W_law.2.1 232 = .ok (.iload 6, 2) := by decide +kernel
theorem d_W_law_234 : decode mi_W_law.2.1 234 = .ok (.ishl, 1) := by decide +kernel
theorem d_W_law_235 : decode mi_W_law.2.1 235 = .ok (.istore 9, 2) := by decide +kernel
theorem d_W_law_237 : decode mi_W_law.2.1 237 = .ok (.aload_n 0, 1) := by decide +kernel
theorem d_W_law_238 : decode mi_W_law.2.1 238 = .ok (.sipush (340), 3) := by decide +kernel
theorem d_W_law_241 : decode mi_W_law.2.1 241 = .ok (.aload 5, 2) := by decide +kernel
theorem d_W_law_243 : decode mi_W_law.2.1 243 = .ok (.arraylength, 1) := by decide +kernel
theorem d_W_law_244 : decode mi_W_law.2.1 244 = .ok (.invokestatic 104, 3) := by decide +kernel
theorem d_W_law_247 : decode mi_W_law.2.1 247 = .ok (.istore 10, 2) := by decide +kernel
theorem d_W_law_249 : decode mi_W_law.2.1 249 = .ok (.aload 5, 2) := by decide +kernel
theorem d_W_law_251 : decode mi_W_law.2.1 251 = .ok (.arraylength, 1) := by decide +kernel
theorem d_W_law_252 : decode mi_W_law.2.1 252 = .ok (.newarray .boolean, 2) := by decide +kernel
theorem d_W_law_254 : decode mi_W_law.2.1 254 = .ok (.astore 11, 2) := by decide +kernel
theorem d_W_law_256 : decode mi_W_law.2.1 256 = .ok (.iconst (0), 1) := by decide +kernel
theorem d_W_law_257 : decode mi_W_law.2.1 257 = .ok (.istore 12, 2) := by decide +kernel
theorem d_W_law_259 : decode mi_W_law.2.1 259 = .ok (.iload 12, 2) := by decide +kernel
theorem d_W_law_261 : decode mi_W_law.2.1 261 = .ok (.aload 5, 2) := by decide +kernel
theorem d_W_law_263 : decode mi_W_law.2.1 263 = .ok (.arraylength, 1) := by decide +kernel
theorem d_W_law_264 : decode mi_W_law.2.1 264 = .ok (.if_icmp .ge (88), 3) := by decide +kernel
theorem d_W_law_267 : decode mi_W_law.2.1 267 = .ok (.aload 11, 2) := by decide +kernel
theorem d_W_law_269 : decode mi_W_law.2.1 269 = .ok (.iload 12, 2) := by decide +kernel
theorem d_W_law_271 : decode mi_W_law.2.1 271 = .ok (.aload 5, 2) := by decide +kernel
theorem d_W_law_273 : decode mi_W_law.2.1 273 = .ok (.iload 12, 2) := by decide +kernel
theorem d_W_law_275 : decode mi_W_law.2.1 275 = .ok (.aaload, 1) := by decide +kernel
theorem d_W_law_276 : decode mi_W_law.2.1 276 = .ok (.iconst (0), 1) := by decide +kernel
theorem d_W_law_277 : decode mi_W_law.2.1 277 = .ok (.iaload, 1) := by decide +kernel
theorem d_W_law_278 : decode mi_W_law.2.1 278 = .ok (.bipush (99), 2) := by decide +kernel
theorem d_W_law_280 : decode mi_W_law.2.1 280 = .ok (.if_icmp .eq (60), 3) := by decide +kernel
theorem d_W_law_283 : decode mi_W_law.2.1 283 = .ok (.iload 12, 2) := by decide +kernel
theorem d_W_law_285 : decode mi_W_law.2.1 285 = .ok (.iload 6, 2) := by decide +kernel
theorem d_W_law_287 : decode mi_W_law.2.1 287 = .ok (.if_icmp .lt (57), 3) := by decide +kernel
theorem d_W_law_290 : decode mi_W_law.2.1 290 = .ok (.aload 11, 2) := by decide +kernel
theorem d_W_law_292 : decode mi_W_law.2.1 292 = .ok (.aload 5, 2) := by decide +kernel
theorem d_W_law_294 : decode mi_W_law.2.1 294 = .ok (.iload 12, 2) := by decide +kernel
theorem d_W_law_296 : decode mi_W_law.2.1 296 = .ok (.aaload, 1) := by decide +kernel
theorem d_W_law_297 : decode mi_W_law.2.1 297 = .ok (.iconst (2), 1) := by decide +kernel
theorem d_W_law_298 : decode mi_W_law.2.1 298 = .ok (.iaload, 1) := by decide +kernel
theorem d_W_law_299 : decode mi_W_law.2.1 299 = .ok (.baload, 1) := by decide +kernel
theorem d_W_law_300 : decode mi_W_law.2.1 300 = .ok (.ifCond .ne (40), 3) := by decide +kernel
theorem d_W_law_303 : decode mi_W_law.2.1 303 = .ok (.aload 5, 2) := by decide +kernel
theorem d_W_law_305 : decode mi_W_law.2.1 305 = .ok (.iload 12, 2) := by decide +kernel
theorem d_W_law_307 : decode mi_W_law.2.1 307 = .ok (.aaload, 1) := by decide +kernel
theorem d_W_law_308 : decode mi_W_law.2.1 308 = .ok (.iconst (0), 1) := by decide +kernel
theorem d_W_law_309 : decode mi_W_law.2.1 309 = .ok (.iaload, 1) := by decide +kernel
theorem d_W_law_310 : decode mi_W_law.2.1 310 = .ok (.bipush (98), 2) := by decide +kernel
theorem d_W_law_312 : decode mi_W_law.2.1 312 = .ok (.if_icmp .eq (32), 3) := by decide +kernel
theorem d_W_law_315 : decode mi_W_law.2.1 315 = .ok (.aload 5, 2) := by decide +kernel
theorem d_W_law_317 : decode mi_W_law.2.1 317 = .ok (.iload 12, 2) := by decide +kernel
theorem d_W_law_319 : decode mi_W_law.2.1 319 = .ok (.aaload, 1) := by decide +kernel
theorem d_W_law_320 : decode mi_W_law.2.1 320 = .ok (.iconst (0), 1) := by decide +kernel
theorem d_W_law_321 : decode mi_W_law.2.1 321 = .ok (.iaload, 1) := by decide +kernel
theorem d_W_law_322 : decode mi_W_law.2.1 322 = .ok (.bipush (118), 2) := by decide +kernel
theorem d_W_law_324 : decode mi_W_law.2.1 324 = .ok (.if_icmp .eq (20), 3) := by decide +kernel
theorem d_W_law_327 : decode mi_W_law.2.1 327 = .ok (.aload 11, 2) := by decide +kernel
theorem d_W_law_329 : decode mi_W_law.2.1 329 = .ok (.aload 5, 2) := by decide +kernel
theorem d_W_law_331 : decode mi_W_law.2.1 331 = .ok (.iload 12, 2) := by decide +kernel
theorem d_W_law_333 : decode mi_W_law.2.1 333 = .ok (.aaload, 1) := by decide +kernel
theorem d_W_law_334 : decode mi_W_law.2.1 334 = .ok (.iconst (3), 1) := by decide +kernel
theorem d_W_law_335 : decode mi_W_law.2.1 335 = .ok (.iaload, 1) := by decide +kernel
theorem d_W_law_336 : decode mi_W_law.2.1 336 = .ok (.baload, 1) := by decide +kernel
theorem d_W_law_337 : decode mi_W_law.2.1 337 = .ok (.ifCond .eq (7), 3) := by decide +kernel
theorem d_W_law_340 : decode mi_W_law.2.1 340 = .ok (.iconst (1), 1) := by decide +kernel
theorem d_W_law_341 : decode mi_W_law.2.1 341 = .ok (.goto (4), 3) := by decide +kernel
theorem d_W_law_344 : decode mi_W_law.2.1 344 = .ok (.iconst (0), 1) := by decide +kernel
theorem d_W_law_345 : decode mi_W_law.2.1 345 = .ok (.bastore, 1) := by decide +kernel
theorem d_W_law_346 : decode mi_W_law.2.1 346 = .ok (.iinc 12 (1), 3) := by decide +kernel
theorem d_W_law_349 : decode mi_W_law.2.1 349 = .ok (.goto (-90), 3) := by decide +kernel
theorem d_W_law_352 : decode mi_W_law.2.1 352 = .ok (.iload 9, 2) := by decide +kernel
theorem d_W_law_354 : decode mi_W_law.2.1 354 = .ok (.anewarray 102, 3) := by decide +kernel
theorem d_W_law_357 : decode mi_W_law.2.1 357 = .ok (.astore 12, 2) := by decide +kernel
theorem d_W_law_359 : decode mi_W_law.2.1 359 = .ok (.iconst (0), 1) := by decide +kernel
theorem d_W_law_360 : decode mi_W_law.2.1 360 = .ok (.istore 13, 2) := by decide +kernel
theorem d_W_law_362 : decode mi_W_law.2.1 362 = .ok (.iconst (0), 1) := by decide +kernel
theorem d_W_law_363 : decode mi_W_law.2.1 363 = .ok (.istore 14, 2) := by decide +kernel
theorem d_W_law_365 : decode mi_W_law.2.1 365 = .ok (.iload 14, 2) := by decide +kernel
theorem d_W_law_367 : decode mi_W_law.2.1 367 = .ok (.iload 9, 2) := by decide +kernel
theorem d_W_law_369 : decode mi_W_law.2.1 369 = .ok (.if_icmp .ge (79), 3) := by decide +kernel
theorem d_W_law_372 : decode mi_W_law.2.1 372 = .ok (.aload 12, 2) := by decide +kernel
theorem d_W_law_374 : decode mi_W_law.2.1 374 = .ok (.iload 14, 2) := by decide +kernel
theorem d_W_law_376 : decode mi_W_law.2.1 376 = .ok (.aload 5, 2) := by decide +kernel
theorem d_W_law_378 : decode mi_W_law.2.1 378 = .ok (.iload_n 3, 1) := by decide +kernel
theorem d_W_law_379 : decode mi_W_law.2.1 379 = .ok (.iload 14, 2) := by decide +kernel
theorem d_W_law_381 : decode mi_W_law.2.1 381 = .ok (.invokestatic 167, 3) := by decide +kernel
theorem d_W_law_384 : decode mi_W_law.2.1 384 = .ok (.aastore, 1) := by decide +kernel
theorem d_W_law_385 : decode mi_W_law.2.1 385 = .ok (.iload 13, 2) := by decide +kernel
theorem d_W_law_387 : decode mi_W_law.2.1 387 = .ok (.aload 12, 2) := by decide +kernel
theorem d_W_law_389 : decode mi_W_law.2.1 389 = .ok (.iload 14, 2) := by decide +kernel
theorem d_W_law_391 : decode mi_W_law.2.1 391 = .ok (.aaload, 1) := by decide +kernel
theorem d_W_law_392 : decode mi_W_law.2.1 392 = .ok (.iload 10, 2) := by decide +kernel
theorem d_W_law_394 : decode mi_W_law.2.1 394 = .ok (.iaload, 1) := by decide +kernel
theorem d_W_law_395 : decode mi_W_law.2.1 395 = .ok (.iadd, 1) := by decide +kernel
theorem d_W_law_396 : decode mi_W_law.2.1 396 = .ok (.istore 13, 2) := by decide +kernel
theorem d_W_law_398 : decode mi_W_law.2.1 398 = .ok (.iconst (0), 1) := by decide +kernel
theorem d_W_law_399 : decode mi_W_law.2.1 399 = .ok (.istore 15, 2) := by decide +kernel
theorem d_W_law_401 : decode mi_W_law.2.1 401 = .ok (.iload 15, 2) := by decide +kernel
theorem d_W_law_403 : decode mi_W_law.2.1 403 = .ok (.aload 5, 2) := by decide +kernel
theorem d_W_law_405 : decode mi_W_law.2.1 405 = .ok (.arraylength, 1) := by decide +kernel
theorem d_W_law_406 : decode mi_W_law.2.1 406 = .ok (.if_icmp .ge (36), 3) := by decide +kernel
theorem d_W_law_409 : decode mi_W_law.2.1 409 = .ok (.iload_n 2, 1) := by decide +kernel
theorem d_W_law_410 : decode mi_W_law.2.1 410 = .ok (.aload_n 1, 1) := by decide +kernel
theorem d_W_law_411 : decode mi_W_law.2.1 411 = .ok (.iload 15, 2) := by decide +kernel
theorem d_W_law_413 : decode mi_W_law.2.1 413 = .ok (.iload 14, 2) := by decide +kernel
theorem d_W_law_415 : decode mi_W_law.2.1 415 = .ok (.invokestatic 171, 3) := by decide +kernel
theorem d_W_law_418 : decode mi_W_law.2.1 418 = .ok (.aload 12, 2) := by decide +kernel
theorem d_W_law_420 : decode mi_W_law.2.1 420 = .ok (.iload 14, 2) := by decide +kernel
theorem d_W_law_422 : decode mi_W_law.2.1 422 = .ok (.aaload, 1) := by decide +kernel
theorem d_W_law_423 : decode mi_W_law.2.1 423 = .ok (.iload 15, 2) := by decide +kernel
theorem d_W_law_425 : decode mi_W_law.2.1 425 = .ok (.iaload, 1) := by decide +kernel
theorem d_W_law_426 : decode mi_W_law.2.1 426 = .ok (.if_icmp .ne (7), 3) := by decide +kernel
theorem d_W_law_429 : decode mi_W_law.2.1 429 = .ok (.iconst (1), 1) := by decide +kernel
theorem d_W_law_430 : decode mi_W_law.2.1 430 = .ok (.goto (4), 3) := by decide +kernel
theorem d_W_law_433 : decode mi_W_law.2.1 433 = .ok (.iconst (0), 1) := by decide +kernel
theorem d_W_law_434 : decode mi_W_law.2.1 434 = .ok (.iand, 1) := by decide +kernel
theorem d_W_law_435 : decode mi_W_law.2.1 435 = .ok (.istore_n 2, 1) := by decide +kernel
theorem d_W_law_436 : decode mi_W_law.2.1 436 = .ok (.iinc 15 (1), 3) := by decide +kernel
theorem d_W_law_439 : decode mi_W_law.2.1 439 = .ok (.goto (-38), 3) := by decide +kernel
theorem d_W_law_442 : decode mi_W_law.2.1 442 = .ok (.iinc 14 (1), 3) := by decide +kernel
theorem d_W_law_445 : decode mi_W_law.2.1 445 = .ok (.goto (-80), 3) := by decide +kernel
theorem d_W_law_448 : decode mi_W_law.2.1 448 = .ok (.aload 11, 2) := by decide +kernel
theorem d_W_law_450 : decode mi_W_law.2.1 450 = .ok (.iload 10, 2) := by decide +kernel
theorem d_W_law_452 : decode mi_W_law.2.1 452 = .ok (.baload, 1) := by decide +kernel
theorem d_W_law_453 : decode mi_W_law.2.1 453 = .ok (.ifCond .ne (12), 3) := by decide +kernel
theorem d_W_law_456 : decode mi_W_law.2.1 456 = .ok (.iload 13, 2) := by decide +kernel
theorem d_W_law_458 : decode mi_W_law.2.1 458 = .ok (.ifCond .le (7), 3) := by decide +kernel
theorem d_W_law_461 : decode mi_W_law.2.1 461 = .ok (.iconst (1), 1) := by decide +kernel
theorem d_W_law_462 : decode mi_W_law.2.1 462 = .ok (.goto (4), 3) := by decide +kernel
theorem d_W_law_465 : decode mi_W_law.2.1 465 = .ok (.iconst (0), 1) := by decide +kernel
theorem d_W_law_466 : decode mi_W_law.2.1 466 = .ok (.istore 14, 2) := by decide +kernel
theorem d_W_law_468 : decode mi_W_law.2.1 468 = .ok (.iload_n 2, 1) := by decide +kernel
theorem d_W_law_469 : decode mi_W_law.2.1 469 = .ok (.aload_n 1, 1) := by decide +kernel
theorem d_W_law_470 : decode mi_W_law.2.1 470 = .ok (.iconst (0), 1) := by decide +kernel
theorem d_W_law_471 : decode mi_W_law.2.1 471 = .ok (.iload 9, 2) := by decide +kernel
theorem d_W_law_473 : decode mi_W_law.2.1 473 = .ok (.invokestatic 171, 3) := by decide +kernel
theorem d_W_law_476 : decode mi_W_law.2.1 476 = .ok (.ldc 20, 2) := by decide +kernel
theorem d_W_law_478 : decode mi_W_law.2.1 478 = .ok (.if_icmp .ne (41), 3) := by decide +kernel
theorem d_W_law_481 : decode mi_W_law.2.1 481 = .ok (.aload_n 1, 1) := by decide +kernel
theorem d_W_law_482 : decode mi_W_law.2.1 482 = .ok (.aload 5, 2) := by decide +kernel
theorem d_W_law_484 : decode mi_W_law.2.1 484 = .ok (.arraylength, 1) := by decide +kernel
theorem d_W_law_485 : decode mi_W_law.2.1 485 = .ok (.iconst (0), 1) := by decide +kernel
theorem d_W_law_486 : decode mi_W_law.2.1 486 = .ok (.invokestatic 171, 3) := by decide +kernel
theorem d_W_law_489 : decode mi_W_law.2.1 489 = .ok (.ldc 17, 2) := by decide +kernel
theorem d_W_law_491 : decode mi_W_law.2.1 491 = .ok (.if_icmp .ne (28), 3) := by decide +kernel
theorem d_W_law_494 : decode mi_W_law.2.1 494 = .ok (.aload_n 1, 1) := by decide +kernel
theorem d_W_law_495 : decode mi_W_law.2.1 495 = .ok (.iload 10, 2) := by decide +kernel
theorem d_W_law_497 : decode mi_W_law.2.1 497 = .ok (.invokestatic 173, 3) := by decide +kernel
theorem d_W_law_500 : decode mi_W_law.2.1 500 = .ok (.iload 14, 2) := by decide +kernel
theorem d_W_law_502 : decode mi_W_law.2.1 502 = .ok (.ifCond .eq (8), 3) := by decide +kernel
theorem d_W_law_505 : decode mi_W_law.2.1 505 = .ok (.iload 13, 2) := by decide +kernel
theorem d_W_law_507 : decode mi_W_law.2.1 507 = .ok (.goto (5), 3) := by decide +kernel
theorem d_W_law_510 : decode mi_W_law.2.1 510 = .ok (.ldc 20, 2) := by decide +kernel
theorem d_W_law_512 : decode mi_W_law.2.1 512 = .ok (.if_icmp .ne (7), 3) := by decide +kernel
theorem d_W_law_515 : decode mi_W_law.2.1 515 = .ok (.iconst (1), 1) := by decide +kernel
theorem d_W_law_516 : decode mi_W_law.2.1 516 = .ok (.goto (4), 3) := by decide +kernel
theorem d_W_law_519 : decode mi_W_law.2.1 519 = .ok (.iconst (0), 1) := by decide +kernel
theorem d_W_law_520 : decode mi_W_law.2.1 520 = .ok (.iand, 1) := by decide +kernel
theorem d_W_law_521 : decode mi_W_law.2.1 521 = .ok (.istore_n 2, 1) := by decide +kernel
theorem d_W_law_522 : decode mi_W_law.2.1 522 = .ok (.iload 9, 2) := by decide +kernel
theorem d_W_law_524 : decode mi_W_law.2.1 524 = .ok (.newarray .boolean, 2) := by decide +kernel
theorem d_W_law_526 : decode mi_W_law.2.1 526 = .ok (.astore 15, 2) := by decide +kernel
theorem d_W_law_528 : decode mi_W_law.2.1 528 = .ok (.iconst (0), 1) := by decide +kernel
theorem d_W_law_529 : decode mi_W_law.2.1 529 = .ok (.istore 16, 2) := by decide +kernel
theorem d_W_law_531 : decode mi_W_law.2.1 531 = .ok (.iload 16, 2) := by decide +kernel
theorem d_W_law_533 : decode mi_W_law.2.1 533 = .ok (.iload 9, 2) := by decide +kernel
theorem d_W_law_535 : decode mi_W_law.2.1 535 = .ok (.if_icmp .ge (92), 3) := by decide +kernel
theorem d_W_law_538 : decode mi_W_law.2.1 538 = .ok (.aload 15, 2) := by decide +kernel
theorem d_W_law_540 : decode mi_W_law.2.1 540 = .ok (.iload 16, 2) := by decide +kernel
theorem d_W_law_542 : decode mi_W_law.2.1 542 = .ok (.iload 14, 2) := by decide +kernel
theorem d_W_law_544 : decode mi_W_law.2.1 544 = .ok (.ifCond .eq (15), 3) := by decide +kernel
theorem d_W_law_547 : decode mi_W_law.2.1 547 = .ok (.aload 12, 2) := by decide +kernel
end RW7
