theorem dL_below_0 : decode cL_below 0 = .ok (.iload_n 0, 1) := by decide +kernel
theorem dL_below_1 : decode cL_below 1 = .ok (.ldc 7, 2) := by decide +kernel
theorem dL_below_3 : decode cL_below 3 = .ok (.iand, 1) := by decide +kernel
theorem dL_below_4 : decode cL_below 4 = .ok (.iload_n 1, 1) := by decide +kernel
theorem dL_below_5 : decode cL_below 5 = .ok (.irem, 1) := by decide +kernel
theorem dL_below_6 : decode cL_below 6 = .ok (.ireturn, 1) := by decide +kernel
theorem dL_cell_0 : decode cL_cell 0 = .ok (.iload_n 1, 1) := by decide +kernel
theorem dL_cell_1 : decode cL_cell 1 = .ok (.aload_n 0, 1) := by decide +kernel
theorem dL_cell_2 : decode cL_cell 2 = .ok (.arraylength, 1) := by decide +kernel
theorem dL_cell_3 : decode cL_cell 3 = .ok (.if_icmp .ge 9, 3) := by decide +kernel
theorem dL_cell_6 : decode cL_cell 6 = .ok (.aload_n 0, 1) := by decide +kernel
theorem dL_cell_7 : decode cL_cell 7 = .ok (.iload_n 1, 1) := by decide +kernel
theorem dL_cell_8 : decode cL_cell 8 = .ok (.iaload, 1) := by decide +kernel
theorem dL_cell_9 : decode cL_cell 9 = .ok (.goto 9, 3) := by decide +kernel
theorem dL_cell_12 : decode cL_cell 12 = .ok (.ldc 8, 2) := by decide +kernel
theorem dL_cell_14 : decode cL_cell 14 = .ok (.iload_n 1, 1) := by decide +kernel
theorem dL_cell_15 : decode cL_cell 15 = .ok (.iconst 3, 1) := by decide +kernel
theorem dL_cell_16 : decode cL_cell 16 = .ok (.iadd, 1) := by decide +kernel
theorem dL_cell_17 : decode cL_cell 17 = .ok (.imul, 1) := by decide +kernel
theorem dL_cell_18 : decode cL_cell 18 = .ok (.ireturn, 1) := by decide +kernel
theorem dL_build_0 : decode cL_build 0 = .ok (.new 9, 3) := by decide +kernel
theorem dL_build_3 : decode cL_build 3 = .ok (.dup, 1) := by decide +kernel
theorem dL_build_4 : decode cL_build 4 = .ok (.invokespecial 11, 3) := by decide +kernel
theorem dL_build_7 : decode cL_build 7 = .ok (.astore_n 3, 1) := by decide +kernel
theorem dL_build_8 : decode cL_build 8 = .ok (.iconst 1, 1) := by decide +kernel
theorem dL_build_9 : decode cL_build 9 = .ok (.aload_n 1, 1) := by decide +kernel
theorem dL_build_10 : decode cL_build 10 = .ok (.iconst 0, 1) := by decide +kernel
theorem dL_build_11 : decode cL_build 11 = .ok (.invokestatic 12, 3) := by decide +kernel
theorem dL_build_14 : decode cL_build 14 = .ok (.iload_n 2, 1) := by decide +kernel
theorem dL_build_15 : decode cL_build 15 = .ok (.invokestatic 18, 3) := by decide +kernel
theorem dL_build_18 : decode cL_build 18 = .ok (.iadd, 1) := by decide +kernel
theorem dL_build_19 : decode cL_build 19 = .ok (.istore 4, 2) := by decide +kernel
theorem dL_build_21 : decode cL_build 21 = .ok (.iconst 0, 1) := by decide +kernel
theorem dL_build_22 : decode cL_build 22 = .ok (.istore 5, 2) := by decide +kernel
theorem dL_build_24 : decode cL_build 24 = .ok (.iload 5, 2) := by decide +kernel
theorem dL_build_26 : decode cL_build 26 = .ok (.iload 4, 2) := by decide +kernel
theorem dL_build_28 : decode cL_build 28 = .ok (.if_icmp .ge 297, 3) := by decide +kernel
theorem dL_build_31 : decode cL_build 31 = .ok (.aload_n 1, 1) := by decide +kernel
theorem dL_build_32 : decode cL_build 32 = .ok (.iconst 1, 1) := by decide +kernel
theorem dL_build_33 : decode cL_build 33 = .ok (.iload 5, 2) := by decide +kernel
theorem dL_build_35 : decode cL_build 35 = .ok (.iconst 4, 1) := by decide +kernel
theorem dL_build_36 : decode cL_build 36 = .ok (.irem, 1) := by decide +kernel
theorem dL_build_37 : decode cL_build 37 = .ok (.iadd, 1) := by decide +kernel
theorem dL_build_38 : decode cL_build 38 = .ok (.invokestatic 12, 3) := by decide +kernel
theorem dL_build_41 : decode cL_build 41 = .ok (.iload 5, 2) := by decide +kernel
theorem dL_build_43 : decode cL_build 43 = .ok (.ishr, 1) := by decide +kernel
theorem dL_build_44 : decode cL_build 44 = .ok (.bipush 11, 2) := by decide +kernel
theorem dL_build_46 : decode cL_build 46 = .ok (.iload 5, 2) := by decide +kernel
theorem dL_build_48 : decode cL_build 48 = .ok (.imul, 1) := by decide +kernel
theorem dL_build_49 : decode cL_build 49 = .ok (.iadd, 1) := by decide +kernel
theorem dL_build_50 : decode cL_build 50 = .ok (.istore 6, 2) := by decide +kernel
theorem dL_build_52 : decode cL_build 52 = .ok (.bipush 10, 2) := by decide +kernel
theorem dL_build_54 : decode cL_build 54 = .ok (.newarray .int, 2) := by decide +kernel
theorem dL_build_56 : decode cL_build 56 = .ok (.dup, 1) := by decide +kernel
theorem dL_build_57 : decode cL_build 57 = .ok (.iconst 0, 1) := by decide +kernel
theorem dL_build_58 : decode cL_build 58 = .ok (.iload 6, 2) := by decide +kernel
theorem dL_build_60 : decode cL_build 60 = .ok (.bipush 41, 2) := by decide +kernel
theorem dL_build_62 : decode cL_build 62 = .ok (.invokestatic 18, 3) := by decide +kernel
theorem dL_build_65 : decode cL_build 65 = .ok (.iastore, 1) := by decide +kernel
theorem dL_build_66 : decode cL_build 66 = .ok (.dup, 1) := by decide +kernel
theorem dL_build_67 : decode cL_build 67 = .ok (.iconst 1, 1) := by decide +kernel
theorem dL_build_68 : decode cL_build 68 = .ok (.iload 6, 2) := by decide +kernel
theorem dL_build_70 : decode cL_build 70 = .ok (.iconst 2, 1) := by decide +kernel
theorem dL_build_71 : decode cL_build 71 = .ok (.ishr, 1) := by decide +kernel
theorem dL_build_72 : decode cL_build 72 = .ok (.iload 6, 2) := by decide +kernel
theorem dL_build_74 : decode cL_build 74 = .ok (.bipush 8, 2) := by decide +kernel
theorem dL_build_76 : decode cL_build 76 = .ok (.ishr, 1) := by decide +kernel
theorem dL_build_77 : decode cL_build 77 = .ok (.iconst 2, 1) := by decide +kernel
theorem dL_build_78 : decode cL_build 78 = .ok (.invokestatic 18, 3) := by decide +kernel
theorem dL_build_81 : decode cL_build 81 = .ok (.ifCond .ne 8, 3) := by decide +kernel
theorem dL_build_84 : decode cL_build 84 = .ok (.bipush 41, 2) := by decide +kernel
theorem dL_build_86 : decode cL_build 86 = .ok (.goto 4, 3) := by decide +kernel
theorem dL_build_89 : decode cL_build 89 = .ok (.iconst 5, 1) := by decide +kernel
theorem dL_build_90 : decode cL_build 90 = .ok (.invokestatic 18, 3) := by decide +kernel
theorem dL_build_93 : decode cL_build 93 = .ok (.iastore, 1) := by decide +kernel
theorem dL_build_94 : decode cL_build 94 = .ok (.dup, 1) := by decide +kernel
theorem dL_build_95 : decode cL_build 95 = .ok (.iconst 2, 1) := by decide +kernel
theorem dL_build_96 : decode cL_build 96 = .ok (.iload 6, 2) := by decide +kernel
theorem dL_build_98 : decode cL_build 98 = .ok (.iconst 4, 1) := by decide +kernel
theorem dL_build_99 : decode cL_build 99 = .ok (.ishr, 1) := by decide +kernel
theorem dL_build_100 : decode cL_build 100 = .ok (.iload 6, 2) := by decide +kernel
theorem dL_build_102 : decode cL_build 102 = .ok (.bipush 7, 2) := by decide +kernel
theorem dL_build_104 : decode cL_build 104 = .ok (.ishr, 1) := by decide +kernel
theorem dL_build_105 : decode cL_build 105 = .ok (.iconst 2, 1) := by decide +kernel
theorem dL_build_106 : decode cL_build 106 = .ok (.invokestatic 18, 3) := by decide +kernel
theorem dL_build_109 : decode cL_build 109 = .ok (.ifCond .ne 9, 3) := by decide +kernel
theorem dL_build_112 : decode cL_build 112 = .ok (.sipush 301, 3) := by decide +kernel
theorem dL_build_115 : decode cL_build 115 = .ok (.goto 4, 3) := by decide +kernel
theorem dL_build_118 : decode cL_build 118 = .ok (.iconst 4, 1) := by decide +kernel
theorem dL_build_119 : decode cL_build 119 = .ok (.invokestatic 18, 3) := by decide +kernel
theorem dL_build_122 : decode cL_build 122 = .ok (.iastore, 1) := by decide +kernel
theorem dL_build_123 : decode cL_build 123 = .ok (.dup, 1) := by decide +kernel
theorem dL_build_124 : decode cL_build 124 = .ok (.iconst 3, 1) := by decide +kernel
theorem dL_build_125 : decode cL_build 125 = .ok (.iconst 1, 1) := by decide +kernel
theorem dL_build_126 : decode cL_build 126 = .ok (.iload 6, 2) := by decide +kernel
theorem dL_build_128 : decode cL_build 128 = .ok (.iconst 3, 1) := by decide +kernel
theorem dL_build_129 : decode cL_build 129 = .ok (.ishr, 1) := by decide +kernel
theorem dL_build_130 : decode cL_build 130 = .ok (.bipush 60, 2) := by decide +kernel
theorem dL_build_132 : decode cL_build 132 = .ok (.invokestatic 18, 3) := by decide +kernel
theorem dL_build_135 : decode cL_build 135 = .ok (.iadd, 1) := by decide +kernel
theorem dL_build_136 : decode cL_build 136 = .ok (.iastore, 1) := by decide +kernel
theorem dL_build_137 : decode cL_build 137 = .ok (.dup, 1) := by decide +kernel
theorem dL_build_138 : decode cL_build 138 = .ok (.iconst 4, 1) := by decide +kernel
theorem dL_build_139 : decode cL_build 139 = .ok (.iconst 1, 1) := by decide +kernel
theorem dL_build_140 : decode cL_build 140 = .ok (.iload 6, 2) := by decide +kernel
theorem dL_build_142 : decode cL_build 142 = .ok (.iconst 5, 1) := by decide +kernel
theorem dL_build_143 : decode cL_build 143 = .ok (.ishr, 1) := by decide +kernel
theorem dL_build_144 : decode cL_build 144 = .ok (.iload 6, 2) := by decide +kernel
theorem dL_build_146 : decode cL_build 146 = .ok (.bipush 9, 2) := by decide +kernel
theorem dL_build_148 : decode cL_build 148 = .ok (.ishr, 1) := by decide +kernel
theorem dL_build_149 : decode cL_build 149 = .ok (.iconst 2, 1) := by decide +kernel
theorem dL_build_150 : decode cL_build 150 = .ok (.invokestatic 18, 3) := by decide +kernel
theorem dL_build_153 : decode cL_build 153 = .ok (.ifCond .ne 8, 3) := by decide +kernel
theorem dL_build_156 : decode cL_build 156 = .ok (.bipush 9, 2) := by decide +kernel
theorem dL_build_158 : decode cL_build 158 = .ok (.goto 4, 3) := by decide +kernel
theorem dL_build_161 : decode cL_build 161 = .ok (.iconst 2, 1) := by decide +kernel
theorem dL_build_162 : decode cL_build 162 = .ok (.invokestatic 18, 3) := by decide +kernel
theorem dL_build_165 : decode cL_build 165 = .ok (.iadd, 1) := by decide +kernel
theorem dL_build_166 : decode cL_build 166 = .ok (.iastore, 1) := by decide +kernel
theorem dL_build_167 : decode cL_build 167 = .ok (.dup, 1) := by decide +kernel
theorem dL_build_168 : decode cL_build 168 = .ok (.iconst 5, 1) := by decide +kernel
theorem dL_build_169 : decode cL_build 169 = .ok (.iconst 0, 1) := by decide +kernel
theorem dL_build_170 : decode cL_build 170 = .ok (.iastore, 1) := by decide +kernel
theorem dL_build_171 : decode cL_build 171 = .ok (.dup, 1) := by decide +kernel
theorem dL_build_172 : decode cL_build 172 = .ok (.bipush 6, 2) := by decide +kernel
theorem dL_build_174 : decode cL_build 174 = .ok (.iconst 0, 1) := by decide +kernel
theorem dL_build_175 : decode cL_build 175 = .ok (.iastore, 1) := by decide +kernel
theorem dL_build_176 : decode cL_build 176 = .ok (.dup, 1) := by decide +kernel
theorem dL_build_177 : decode cL_build 177 = .ok (.bipush 7, 2) := by decide +kernel
theorem dL_build_179 : decode cL_build 179 = .ok (.iconst 0, 1) := by decide +kernel
theorem dL_build_180 : decode cL_build 180 = .ok (.iastore, 1) := by decide +kernel
theorem dL_build_181 : decode cL_build 181 = .ok (.dup, 1) := by decide +kernel
theorem dL_build_182 : decode cL_build 182 = .ok (.bipush 8, 2) := by decide +kernel
theorem dL_build_184 : decode cL_build 184 = .ok (.iconst (-1), 1) := by decide +kernel
theorem dL_build_185 : decode cL_build 185 = .ok (.iastore, 1) := by decide +kernel
theorem dL_build_186 : decode cL_build 186 = .ok (.dup, 1) := by decide +kernel
theorem dL_build_187 : decode cL_build 187 = .ok (.bipush 9, 2) := by decide +kernel
theorem dL_build_189 : decode cL_build 189 = .ok (.iconst 0, 1) := by decide +kernel
theorem dL_build_190 : decode cL_build 190 = .ok (.iastore, 1) := by decide +kernel
theorem dL_build_191 : decode cL_build 191 = .ok (.astore 7, 2) := by decide +kernel
theorem dL_build_193 : decode cL_build 193 = .ok (.iconst 1, 1) := by decide +kernel
theorem dL_build_194 : decode cL_build 194 = .ok (.istore 8, 2) := by decide +kernel
theorem dL_build_196 : decode cL_build 196 = .ok (.aload_n 3, 1) := by decide +kernel
theorem dL_build_197 : decode cL_build 197 = .ok (.getfield 22, 3) := by decide +kernel
theorem dL_build_200 : decode cL_build 200 = .ok (.astore 9, 2) := by decide +kernel
theorem dL_build_202 : decode cL_build 202 = .ok (.aload 9, 2) := by decide +kernel
theorem dL_build_204 : decode cL_build 204 = .ok (.arraylength, 1) := by decide +kernel
theorem dL_build_205 : decode cL_build 205 = .ok (.istore 10, 2) := by decide +kernel
theorem dL_build_207 : decode cL_build 207 = .ok (.iconst 0, 1) := by decide +kernel
theorem dL_build_208 : decode cL_build 208 = .ok (.istore 11, 2) := by decide +kernel
theorem dL_build_210 : decode cL_build 210 = .ok (.iload 11, 2) := by decide +kernel
theorem dL_build_212 : decode cL_build 212 = .ok (.iload 10, 2) := by decide +kernel
theorem dL_build_214 : decode cL_build 214 = .ok (.if_icmp .ge 50, 3) := by decide +kernel
theorem dL_build_217 : decode cL_build 217 = .ok (.aload 9, 2) := by decide +kernel
theorem dL_build_219 : decode cL_build 219 = .ok (.iload 11, 2) := by decide +kernel
theorem dL_build_221 : decode cL_build 221 = .ok (.aaload, 1) := by decide +kernel
theorem dL_build_222 : decode cL_build 222 = .ok (.astore 12, 2) := by decide +kernel
theorem dL_build_224 : decode cL_build 224 = .ok (.iload 8, 2) := by decide +kernel
theorem dL_build_226 : decode cL_build 226 = .ok (.ifCond .eq 29, 3) := by decide +kernel
theorem dL_build_229 : decode cL_build 229 = .ok (.aload 12, 2) := by decide +kernel
theorem dL_build_231 : decode cL_build 231 = .ok (.iconst 0, 1) := by decide +kernel
theorem dL_build_232 : decode cL_build 232 = .ok (.iaload, 1) := by decide +kernel
theorem dL_build_233 : decode cL_build 233 = .ok (.aload 7, 2) := by decide +kernel
theorem dL_build_235 : decode cL_build 235 = .ok (.iconst 0, 1) := by decide +kernel
theorem dL_build_236 : decode cL_build 236 = .ok (.iaload, 1) := by decide +kernel
theorem dL_build_237 : decode cL_build 237 = .ok (.if_icmp .ne 14, 3) := by decide +kernel
theorem dL_build_240 : decode cL_build 240 = .ok (.aload 12, 2) := by decide +kernel
theorem dL_build_242 : decode cL_build 242 = .ok (.iconst 1, 1) := by decide +kernel
theorem dL_build_243 : decode cL_build 243 = .ok (.iaload, 1) := by decide +kernel
theorem dL_build_244 : decode cL_build 244 = .ok (.aload 7, 2) := by decide +kernel
theorem dL_build_246 : decode cL_build 246 = .ok (.iconst 1, 1) := by decide +kernel
theorem dL_build_247 : decode cL_build 247 = .ok (.iaload, 1) := by decide +kernel
theorem dL_build_248 : decode cL_build 248 = .ok (.if_icmp .eq 7, 3) := by decide +kernel
theorem dL_build_251 : decode cL_build 251 = .ok (.iconst 1, 1) := by decide +kernel
theorem dL_build_252 : decode cL_build 252 = .ok (.goto 4, 3) := by decide +kernel
theorem dL_build_255 : decode cL_build 255 = .ok (.iconst 0, 1) := by decide +kernel
theorem dL_build_256 : decode cL_build 256 = .ok (.istore 8, 2) := by decide +kernel
theorem dL_build_258 : decode cL_build 258 = .ok (.iinc 11 1, 3) := by decide +kernel
theorem dL_build_261 : decode cL_build 261 = .ok (.goto (-51), 3) := by decide +kernel
theorem dL_build_264 : decode cL_build 264 = .ok (.iload 8, 2) := by decide +kernel
theorem dL_build_266 : decode cL_build 266 = .ok (.ifCond .ne 6, 3) := by decide +kernel
theorem dL_build_269 : decode cL_build 269 = .ok (.goto 50, 3) := by decide +kernel
theorem dL_build_272 : decode cL_build 272 = .ok (.aload_n 0, 1) := by decide +kernel
theorem dL_build_273 : decode cL_build 273 = .ok (.aload 7, 2) := by decide +kernel
theorem dL_build_275 : decode cL_build 275 = .ok (.iconst 0, 1) := by decide +kernel
theorem dL_build_276 : decode cL_build 276 = .ok (.iaload, 1) := by decide +kernel
theorem dL_build_277 : decode cL_build 277 = .ok (.aload 7, 2) := by decide +kernel
theorem dL_build_279 : decode cL_build 279 = .ok (.iconst 1, 1) := by decide +kernel
theorem dL_build_280 : decode cL_build 280 = .ok (.iaload, 1) := by decide +kernel
theorem dL_build_281 : decode cL_build 281 = .ok (.aload 7, 2) := by decide +kernel
theorem dL_build_283 : decode cL_build 283 = .ok (.iconst 2, 1) := by decide +kernel
theorem dL_build_284 : decode cL_build 284 = .ok (.iaload, 1) := by decide +kernel
theorem dL_build_285 : decode cL_build 285 = .ok (.aload 7, 2) := by decide +kernel
theorem dL_build_287 : decode cL_build 287 = .ok (.iconst 3, 1) := by decide +kernel
theorem dL_build_288 : decode cL_build 288 = .ok (.iaload, 1) := by decide +kernel
theorem dL_build_289 : decode cL_build 289 = .ok (.aload 7, 2) := by decide +kernel
theorem dL_build_291 : decode cL_build 291 = .ok (.iconst 4, 1) := by decide +kernel
theorem dL_build_292 : decode cL_build 292 = .ok (.iaload, 1) := by decide +kernel
theorem dL_build_293 : decode cL_build 293 = .ok (.invokevirtual 26, 3) := by decide +kernel
theorem dL_build_296 : decode cL_build 296 = .ok (.aload_n 3, 1) := by decide +kernel
theorem dL_build_297 : decode cL_build 297 = .ok (.getfield 22, 3) := by decide +kernel
theorem dL_build_300 : decode cL_build 300 = .ok (.arraylength, 1) := by decide +kernel
theorem dL_build_301 : decode cL_build 301 = .ok (.if_icmp .eq 5, 3) := by decide +kernel
theorem dL_build_304 : decode cL_build 304 = .ok (.aconst_null, 1) := by decide +kernel
theorem dL_build_305 : decode cL_build 305 = .ok (.areturn, 1) := by decide +kernel
theorem dL_build_306 : decode cL_build 306 = .ok (.aload_n 3, 1) := by decide +kernel
theorem dL_build_307 : decode cL_build 307 = .ok (.aload_n 3, 1) := by decide +kernel
theorem dL_build_308 : decode cL_build 308 = .ok (.getfield 22, 3) := by decide +kernel
theorem dL_build_311 : decode cL_build 311 = .ok (.aload 7, 2) := by decide +kernel
theorem dL_build_313 : decode cL_build 313 = .ok (.invokestatic 32, 3) := by decide +kernel
theorem dL_build_316 : decode cL_build 316 = .ok (.putfield 22, 3) := by decide +kernel
theorem dL_build_319 : decode cL_build 319 = .ok (.iinc 5 1, 3) := by decide +kernel
theorem dL_build_322 : decode cL_build 322 = .ok (.goto (-298), 3) := by decide +kernel
theorem dL_build_325 : decode cL_build 325 = .ok (.aload_n 3, 1) := by decide +kernel
theorem dL_build_326 : decode cL_build 326 = .ok (.getfield 22, 3) := by decide +kernel
theorem dL_build_329 : decode cL_build 329 = .ok (.arraylength, 1) := by decide +kernel
theorem dL_build_330 : decode cL_build 330 = .ok (.istore 5, 2) := by decide +kernel
theorem dL_build_332 : decode cL_build 332 = .ok (.iconst 0, 1) := by decide +kernel
theorem dL_build_333 : decode cL_build 333 = .ok (.istore 6, 2) := by decide +kernel
theorem dL_build_335 : decode cL_build 335 = .ok (.iload 6, 2) := by decide +kernel
theorem dL_build_337 : decode cL_build 337 = .ok (.iload 5, 2) := by decide +kernel
theorem dL_build_339 : decode cL_build 339 = .ok (.if_icmp .ge 154, 3) := by decide +kernel
theorem dL_build_342 : decode cL_build 342 = .ok (.aload_n 1, 1) := by decide +kernel
theorem dL_build_343 : decode cL_build 343 = .ok (.iconst 5, 1) := by decide +kernel
theorem dL_build_344 : decode cL_build 344 = .ok (.invokestatic 12, 3) := by decide +kernel
theorem dL_build_347 : decode cL_build 347 = .ok (.iconst 2, 1) := by decide +kernel
theorem dL_build_348 : decode cL_build 348 = .ok (.iload 6, 2) := by decide +kernel
theorem dL_build_350 : decode cL_build 350 = .ok (.imul, 1) := by decide +kernel
theorem dL_build_351 : decode cL_build 351 = .ok (.ishr, 1) := by decide +kernel
theorem dL_build_352 : decode cL_build 352 = .ok (.iload 5, 2) := by decide +kernel
theorem dL_build_354 : decode cL_build 354 = .ok (.invokestatic 18, 3) := by decide +kernel
theorem dL_build_357 : decode cL_build 357 = .ok (.istore 7, 2) := by decide +kernel
theorem dL_build_359 : decode cL_build 359 = .ok (.aload_n 3, 1) := by decide +kernel
theorem dL_build_360 : decode cL_build 360 = .ok (.getfield 22, 3) := by decide +kernel
theorem dL_build_363 : decode cL_build 363 = .ok (.iload 7, 2) := by decide +kernel
theorem dL_build_365 : decode cL_build 365 = .ok (.aaload, 1) := by decide +kernel
theorem dL_build_366 : decode cL_build 366 = .ok (.iconst 2, 1) := by decide +kernel
theorem dL_build_367 : decode cL_build 367 = .ok (.iaload, 1) := by decide +kernel
theorem dL_build_368 : decode cL_build 368 = .ok (.aload_n 3, 1) := by decide +kernel
theorem dL_build_369 : decode cL_build 369 = .ok (.getfield 22, 3) := by decide +kernel
theorem dL_build_372 : decode cL_build 372 = .ok (.iload 6, 2) := by decide +kernel
theorem dL_build_374 : decode cL_build 374 = .ok (.aaload, 1) := by decide +kernel
theorem dL_build_375 : decode cL_build 375 = .ok (.iconst 2, 1) := by decide +kernel
theorem dL_build_376 : decode cL_build 376 = .ok (.iaload, 1) := by decide +kernel
theorem dL_build_377 : decode cL_build 377 = .ok (.if_icmp .ge 29, 3) := by decide +kernel
theorem dL_build_380 : decode cL_build 380 = .ok (.aload_n 3, 1) := by decide +kernel
theorem dL_build_381 : decode cL_build 381 = .ok (.getfield 22, 3) := by decide +kernel
theorem dL_build_384 : decode cL_build 384 = .ok (.iload 6, 2) := by decide +kernel
theorem dL_build_386 : decode cL_build 386 = .ok (.aaload, 1) := by decide +kernel
theorem dL_build_387 : decode cL_build 387 = .ok (.bipush 8, 2) := by decide +kernel
theorem dL_build_389 : decode cL_build 389 = .ok (.iload 7, 2) := by decide +kernel
theorem dL_build_391 : decode cL_build 391 = .ok (.iastore, 1) := by decide +kernel
theorem dL_build_392 : decode cL_build 392 = .ok (.aload_n 0, 1) := by decide +kernel
theorem dL_build_393 : decode cL_build 393 = .ok (.iload 6, 2) := by decide +kernel
theorem dL_build_395 : decode cL_build 395 = .ok (.iload 7, 2) := by decide +kernel
theorem dL_build_397 : decode cL_build 397 = .ok (.invokevirtual 36, 3) := by decide +kernel
theorem dL_build_400 : decode cL_build 400 = .ok (.iconst (-1), 1) := by decide +kernel
theorem dL_build_401 : decode cL_build 401 = .ok (.if_icmp .eq 5, 3) := by decide +kernel
theorem dL_build_404 : decode cL_build 404 = .ok (.aconst_null, 1) := by decide +kernel
theorem dL_build_405 : decode cL_build 405 = .ok (.areturn, 1) := by decide +kernel
theorem dL_build_406 : decode cL_build 406 = .ok (.aload_n 1, 1) := by decide +kernel
theorem dL_build_407 : decode cL_build 407 = .ok (.bipush 6, 2) := by decide +kernel
theorem dL_build_409 : decode cL_build 409 = .ok (.invokestatic 12, 3) := by decide +kernel
theorem dL_build_412 : decode cL_build 412 = .ok (.iload 6, 2) := by decide +kernel
theorem dL_build_414 : decode cL_build 414 = .ok (.ishr, 1) := by decide +kernel
theorem dL_build_415 : decode cL_build 415 = .ok (.iconst 3, 1) := by decide +kernel
theorem dL_build_416 : decode cL_build 416 = .ok (.invokestatic 18, 3) := by decide +kernel
theorem dL_build_419 : decode cL_build 419 = .ok (.ifCond .ne 7, 3) := by decide +kernel
theorem dL_build_422 : decode cL_build 422 = .ok (.iconst 0, 1) := by decide +kernel
theorem dL_build_423 : decode cL_build 423 = .ok (.goto 20, 3) := by decide +kernel
theorem dL_build_426 : decode cL_build 426 = .ok (.aload_n 1, 1) := by decide +kernel
theorem dL_build_427 : decode cL_build 427 = .ok (.bipush 6, 2) := by decide +kernel
theorem dL_build_429 : decode cL_build 429 = .ok (.invokestatic 12, 3) := by decide +kernel
theorem dL_build_432 : decode cL_build 432 = .ok (.iconst 2, 1) := by decide +kernel
theorem dL_build_433 : decode cL_build 433 = .ok (.iload 6, 2) := by decide +kernel
theorem dL_build_435 : decode cL_build 435 = .ok (.imul, 1) := by decide +kernel
theorem dL_build_436 : decode cL_build 436 = .ok (.ishr, 1) := by decide +kernel
theorem dL_build_437 : decode cL_build 437 = .ok (.sipush 6000, 3) := by decide +kernel
theorem dL_build_440 : decode cL_build 440 = .ok (.invokestatic 18, 3) := by decide +kernel
theorem dL_build_443 : decode cL_build 443 = .ok (.istore 8, 2) := by decide +kernel
theorem dL_build_445 : decode cL_build 445 = .ok (.aload_n 3, 1) := by decide +kernel
theorem dL_build_446 : decode cL_build 446 = .ok (.getfield 22, 3) := by decide +kernel
theorem dL_build_449 : decode cL_build 449 = .ok (.iload 6, 2) := by decide +kernel
theorem dL_build_451 : decode cL_build 451 = .ok (.aaload, 1) := by decide +kernel
theorem dL_build_452 : decode cL_build 452 = .ok (.iconst 5, 1) := by decide +kernel
theorem dL_build_453 : decode cL_build 453 = .ok (.iload 8, 2) := by decide +kernel
theorem dL_build_455 : decode cL_build 455 = .ok (.aload_n 3, 1) := by decide +kernel
theorem dL_build_456 : decode cL_build 456 = .ok (.iload 6, 2) := by decide +kernel
theorem dL_build_458 : decode cL_build 458 = .ok (.invokevirtual 39, 3) := by decide +kernel
theorem dL_build_461 : decode cL_build 461 = .ok (.invokestatic 43, 3) := by decide +kernel
theorem dL_build_464 : decode cL_build 464 = .ok (.iastore, 1) := by decide +kernel
theorem dL_build_465 : decode cL_build 465 = .ok (.aload_n 0, 1) := by decide +kernel
theorem dL_build_466 : decode cL_build 466 = .ok (.iload 6, 2) := by decide +kernel
theorem dL_build_468 : decode cL_build 468 = .ok (.iload 8, 2) := by decide +kernel
theorem dL_build_470 : decode cL_build 470 = .ok (.invokevirtual 48, 3) := by decide +kernel
theorem dL_build_473 : decode cL_build 473 = .ok (.aload_n 3, 1) := by decide +kernel
theorem dL_build_474 : decode cL_build 474 = .ok (.getfield 22, 3) := by decide +kernel
theorem dL_build_477 : decode cL_build 477 = .ok (.iload 6, 2) := by decide +kernel
theorem dL_build_479 : decode cL_build 479 = .ok (.aaload, 1) := by decide +kernel
theorem dL_build_480 : decode cL_build 480 = .ok (.iconst 5, 1) := by decide +kernel
theorem dL_build_481 : decode cL_build 481 = .ok (.iaload, 1) := by decide +kernel
theorem dL_build_482 : decode cL_build 482 = .ok (.if_icmp .eq 5, 3) := by decide +kernel
theorem dL_build_485 : decode cL_build 485 = .ok (.aconst_null, 1) := by decide +kernel
theorem dL_build_486 : decode cL_build 486 = .ok (.areturn, 1) := by decide +kernel
theorem dL_build_487 : decode cL_build 487 = .ok (.iinc 6 1, 3) := by decide +kernel
theorem dL_build_490 : decode cL_build 490 = .ok (.goto (-155), 3) := by decide +kernel
theorem dL_build_493 : decode cL_build 493 = .ok (.iconst 0, 1) := by decide +kernel
theorem dL_build_494 : decode cL_build 494 = .ok (.istore 6, 2) := by decide +kernel
theorem dL_build_496 : decode cL_build 496 = .ok (.iload 6, 2) := by decide +kernel
theorem dL_build_498 : decode cL_build 498 = .ok (.bipush 10, 2) := by decide +kernel
theorem dL_build_500 : decode cL_build 500 = .ok (.if_icmp .ge 111, 3) := by decide +kernel
theorem dL_build_503 : decode cL_build 503 = .ok (.aload_n 1, 1) := by decide +kernel
theorem dL_build_504 : decode cL_build 504 = .ok (.bipush 7, 2) := by decide +kernel
theorem dL_build_506 : decode cL_build 506 = .ok (.iload 6, 2) := by decide +kernel
theorem dL_build_508 : decode cL_build 508 = .ok (.iconst 3, 1) := by decide +kernel
theorem dL_build_509 : decode cL_build 509 = .ok (.irem, 1) := by decide +kernel
theorem dL_build_510 : decode cL_build 510 = .ok (.iadd, 1) := by decide +kernel
theorem dL_build_511 : decode cL_build 511 = .ok (.invokestatic 12, 3) := by decide +kernel
theorem dL_build_514 : decode cL_build 514 = .ok (.iload 6, 2) := by decide +kernel
theorem dL_build_516 : decode cL_build 516 = .ok (.ishr, 1) := by decide +kernel
theorem dL_build_517 : decode cL_build 517 = .ok (.istore 7, 2) := by decide +kernel
theorem dL_build_519 : decode cL_build 519 = .ok (.iconst 3, 1) := by decide +kernel
theorem dL_build_520 : decode cL_build 520 = .ok (.newarray .int, 2) := by decide +kernel
theorem dL_build_522 : decode cL_build 522 = .ok (.dup, 1) := by decide +kernel
theorem dL_build_523 : decode cL_build 523 = .ok (.iconst 0, 1) := by decide +kernel
theorem dL_build_524 : decode cL_build 524 = .ok (.iload 7, 2) := by decide +kernel
theorem dL_build_526 : decode cL_build 526 = .ok (.bipush 10, 2) := by decide +kernel
theorem dL_build_528 : decode cL_build 528 = .ok (.invokestatic 18, 3) := by decide +kernel
theorem dL_build_531 : decode cL_build 531 = .ok (.iastore, 1) := by decide +kernel
theorem dL_build_532 : decode cL_build 532 = .ok (.dup, 1) := by decide +kernel
theorem dL_build_533 : decode cL_build 533 = .ok (.iconst 1, 1) := by decide +kernel
theorem dL_build_534 : decode cL_build 534 = .ok (.iload 7, 2) := by decide +kernel
theorem dL_build_536 : decode cL_build 536 = .ok (.iconst 2, 1) := by decide +kernel
theorem dL_build_537 : decode cL_build 537 = .ok (.ishr, 1) := by decide +kernel
theorem dL_build_538 : decode cL_build 538 = .ok (.iconst 3, 1) := by decide +kernel
theorem dL_build_539 : decode cL_build 539 = .ok (.invokestatic 18, 3) := by decide +kernel
theorem dL_build_542 : decode cL_build 542 = .ok (.ifCond .ne 15, 3) := by decide +kernel
theorem dL_build_545 : decode cL_build 545 = .ok (.iload 7, 2) := by decide +kernel
theorem dL_build_547 : decode cL_build 547 = .ok (.iconst 3, 1) := by decide +kernel
theorem dL_build_548 : decode cL_build 548 = .ok (.ishr, 1) := by decide +kernel
theorem dL_build_549 : decode cL_build 549 = .ok (.bipush 10, 2) := by decide +kernel
theorem dL_build_551 : decode cL_build 551 = .ok (.invokestatic 18, 3) := by decide +kernel
theorem dL_build_554 : decode cL_build 554 = .ok (.goto 4, 3) := by decide +kernel
theorem dL_build_557 : decode cL_build 557 = .ok (.iconst 0, 1) := by decide +kernel
theorem dL_build_558 : decode cL_build 558 = .ok (.iastore, 1) := by decide +kernel
theorem dL_build_559 : decode cL_build 559 = .ok (.dup, 1) := by decide +kernel
theorem dL_build_560 : decode cL_build 560 = .ok (.iconst 2, 1) := by decide +kernel
theorem dL_build_561 : decode cL_build 561 = .ok (.iload 7, 2) := by decide +kernel
theorem dL_build_563 : decode cL_build 563 = .ok (.iconst 5, 1) := by decide +kernel
theorem dL_build_564 : decode cL_build 564 = .ok (.ishr, 1) := by decide +kernel
theorem dL_build_565 : decode cL_build 565 = .ok (.bipush 10, 2) := by decide +kernel
theorem dL_build_567 : decode cL_build 567 = .ok (.invokestatic 18, 3) := by decide +kernel
theorem dL_build_570 : decode cL_build 570 = .ok (.iastore, 1) := by decide +kernel
theorem dL_build_571 : decode cL_build 571 = .ok (.astore 8, 2) := by decide +kernel
theorem dL_build_573 : decode cL_build 573 = .ok (.aload_n 0, 1) := by decide +kernel
theorem dL_build_574 : decode cL_build 574 = .ok (.iload 6, 2) := by decide +kernel
theorem dL_build_576 : decode cL_build 576 = .ok (.aload 8, 2) := by decide +kernel
theorem dL_build_578 : decode cL_build 578 = .ok (.iconst 0, 1) := by decide +kernel
theorem dL_build_579 : decode cL_build 579 = .ok (.iaload, 1) := by decide +kernel
theorem dL_build_580 : decode cL_build 580 = .ok (.aload 8, 2) := by decide +kernel
theorem dL_build_582 : decode cL_build 582 = .ok (.iconst 1, 1) := by decide +kernel
theorem dL_build_583 : decode cL_build 583 = .ok (.iaload, 1) := by decide +kernel
theorem dL_build_584 : decode cL_build 584 = .ok (.aload 8, 2) := by decide +kernel
theorem dL_build_586 : decode cL_build 586 = .ok (.iconst 2, 1) := by decide +kernel
theorem dL_build_587 : decode cL_build 587 = .ok (.iaload, 1) := by decide +kernel
theorem dL_build_588 : decode cL_build 588 = .ok (.invokevirtual 51, 3) := by decide +kernel
theorem dL_build_591 : decode cL_build 591 = .ok (.ifCond .eq 5, 3) := by decide +kernel
theorem dL_build_594 : decode cL_build 594 = .ok (.aconst_null, 1) := by decide +kernel
theorem dL_build_595 : decode cL_build 595 = .ok (.areturn, 1) := by decide +kernel
theorem dL_build_596 : decode cL_build 596 = .ok (.aload_n 3, 1) := by decide +kernel
theorem dL_build_597 : decode cL_build 597 = .ok (.getfield 55, 3) := by decide +kernel
theorem dL_build_600 : decode cL_build 600 = .ok (.iload 6, 2) := by decide +kernel
theorem dL_build_602 : decode cL_build 602 = .ok (.aload 8, 2) := by decide +kernel
theorem dL_build_604 : decode cL_build 604 = .ok (.aastore, 1) := by decide +kernel
theorem dL_build_605 : decode cL_build 605 = .ok (.iinc 6 1, 3) := by decide +kernel
theorem dL_build_608 : decode cL_build 608 = .ok (.goto (-112), 3) := by decide +kernel
theorem dL_build_611 : decode cL_build 611 = .ok (.aload_n 1, 1) := by decide +kernel
theorem dL_build_612 : decode cL_build 612 = .ok (.bipush 10, 2) := by decide +kernel
theorem dL_build_614 : decode cL_build 614 = .ok (.invokestatic 12, 3) := by decide +kernel
theorem dL_build_617 : decode cL_build 617 = .ok (.bipush 6, 2) := by decide +kernel
theorem dL_build_619 : decode cL_build 619 = .ok (.invokestatic 18, 3) := by decide +kernel
theorem dL_build_622 : decode cL_build 622 = .ok (.istore 6, 2) := by decide +kernel
theorem dL_build_624 : decode cL_build 624 = .ok (.iconst 0, 1) := by decide +kernel
theorem dL_build_625 : decode cL_build 625 = .ok (.istore 7, 2) := by decide +kernel
theorem dL_build_627 : decode cL_build 627 = .ok (.iload 7, 2) := by decide +kernel
theorem dL_build_629 : decode cL_build 629 = .ok (.iload 6, 2) := by decide +kernel
theorem dL_build_631 : decode cL_build 631 = .ok (.if_icmp .ge 155, 3) := by decide +kernel
theorem dL_build_634 : decode cL_build 634 = .ok (.aload_n 1, 1) := by decide +kernel
theorem dL_build_635 : decode cL_build 635 = .ok (.bipush 11, 2) := by decide +kernel
theorem dL_build_637 : decode cL_build 637 = .ok (.iload 7, 2) := by decide +kernel
theorem dL_build_639 : decode cL_build 639 = .ok (.iconst 2, 1) := by decide +kernel
theorem dL_build_640 : decode cL_build 640 = .ok (.irem, 1) := by decide +kernel
theorem dL_build_641 : decode cL_build 641 = .ok (.iadd, 1) := by decide +kernel
theorem dL_build_642 : decode cL_build 642 = .ok (.invokestatic 12, 3) := by decide +kernel
theorem dL_build_645 : decode cL_build 645 = .ok (.iload 7, 2) := by decide +kernel
theorem dL_build_647 : decode cL_build 647 = .ok (.ishr, 1) := by decide +kernel
theorem dL_build_648 : decode cL_build 648 = .ok (.iconst 5, 1) := by decide +kernel
theorem dL_build_649 : decode cL_build 649 = .ok (.iload 7, 2) := by decide +kernel
theorem dL_build_651 : decode cL_build 651 = .ok (.imul, 1) := by decide +kernel
theorem dL_build_652 : decode cL_build 652 = .ok (.iadd, 1) := by decide +kernel
theorem dL_build_653 : decode cL_build 653 = .ok (.istore 8, 2) := by decide +kernel
theorem dL_build_655 : decode cL_build 655 = .ok (.iconst 1, 1) := by decide +kernel
theorem dL_build_656 : decode cL_build 656 = .ok (.iload 8, 2) := by decide +kernel
theorem dL_build_658 : decode cL_build 658 = .ok (.iload 8, 2) := by decide +kernel
theorem dL_build_660 : decode cL_build 660 = .ok (.bipush 6, 2) := by decide +kernel
theorem dL_build_662 : decode cL_build 662 = .ok (.ishr, 1) := by decide +kernel
theorem dL_build_663 : decode cL_build 663 = .ok (.iconst 2, 1) := by decide +kernel
theorem dL_build_664 : decode cL_build 664 = .ok (.invokestatic 18, 3) := by decide +kernel
theorem dL_build_667 : decode cL_build 667 = .ok (.ifCond .ne 8, 3) := by decide +kernel
theorem dL_build_670 : decode cL_build 670 = .ok (.bipush 80, 2) := by decide +kernel
theorem dL_build_672 : decode cL_build 672 = .ok (.goto 5, 3) := by decide +kernel
theorem dL_build_675 : decode cL_build 675 = .ok (.bipush 15, 2) := by decide +kernel
theorem dL_build_677 : decode cL_build 677 = .ok (.invokestatic 18, 3) := by decide +kernel
theorem dL_build_680 : decode cL_build 680 = .ok (.iadd, 1) := by decide +kernel
theorem dL_build_681 : decode cL_build 681 = .ok (.istore 9, 2) := by decide +kernel
theorem dL_build_683 : decode cL_build 683 = .ok (.iload 8, 2) := by decide +kernel
theorem dL_build_685 : decode cL_build 685 = .ok (.iconst 3, 1) := by decide +kernel
theorem dL_build_686 : decode cL_build 686 = .ok (.ishr, 1) := by decide +kernel
theorem dL_build_687 : decode cL_build 687 = .ok (.iload 5, 2) := by decide +kernel
theorem dL_build_689 : decode cL_build 689 = .ok (.invokestatic 18, 3) := by decide +kernel
theorem dL_build_692 : decode cL_build 692 = .ok (.istore 10, 2) := by decide +kernel
theorem dL_build_694 : decode cL_build 694 = .ok (.aload_n 0, 1) := by decide +kernel
theorem dL_build_695 : decode cL_build 695 = .ok (.iload 10, 2) := by decide +kernel
theorem dL_build_697 : decode cL_build 697 = .ok (.iload 9, 2) := by decide +kernel
theorem dL_build_699 : decode cL_build 699 = .ok (.invokevirtual 58, 3) := by decide +kernel
theorem dL_build_702 : decode cL_build 702 = .ok (.iload 7, 2) := by decide +kernel
theorem dL_build_704 : decode cL_build 704 = .ok (.if_icmp .eq 5, 3) := by decide +kernel
theorem dL_build_707 : decode cL_build 707 = .ok (.aconst_null, 1) := by decide +kernel
theorem dL_build_708 : decode cL_build 708 = .ok (.areturn, 1) := by decide +kernel
theorem dL_build_709 : decode cL_build 709 = .ok (.aload_n 3, 1) := by decide +kernel
theorem dL_build_710 : decode cL_build 710 = .ok (.aload_n 3, 1) := by decide +kernel
theorem dL_build_711 : decode cL_build 711 = .ok (.getfield 61, 3) := by decide +kernel
theorem dL_build_714 : decode cL_build 714 = .ok (.iconst 5, 1) := by decide +kernel
theorem dL_build_715 : decode cL_build 715 = .ok (.newarray .int, 2) := by decide +kernel
theorem dL_build_717 : decode cL_build 717 = .ok (.dup, 1) := by decide +kernel
theorem dL_build_718 : decode cL_build 718 = .ok (.iconst 0, 1) := by decide +kernel
theorem dL_build_719 : decode cL_build 719 = .ok (.iload 9, 2) := by decide +kernel
theorem dL_build_721 : decode cL_build 721 = .ok (.iastore, 1) := by decide +kernel
theorem dL_build_722 : decode cL_build 722 = .ok (.dup, 1) := by decide +kernel
theorem dL_build_723 : decode cL_build 723 = .ok (.iconst 1, 1) := by decide +kernel
theorem dL_build_724 : decode cL_build 724 = .ok (.iload 10, 2) := by decide +kernel
theorem dL_build_726 : decode cL_build 726 = .ok (.iastore, 1) := by decide +kernel
theorem dL_build_727 : decode cL_build 727 = .ok (.dup, 1) := by decide +kernel
theorem dL_build_728 : decode cL_build 728 = .ok (.iconst 2, 1) := by decide +kernel
theorem dL_build_729 : decode cL_build 729 = .ok (.iconst 0, 1) := by decide +kernel
theorem dL_build_730 : decode cL_build 730 = .ok (.iastore, 1) := by decide +kernel
theorem dL_build_731 : decode cL_build 731 = .ok (.dup, 1) := by decide +kernel
theorem dL_build_732 : decode cL_build 732 = .ok (.iconst 3, 1) := by decide +kernel
theorem dL_build_733 : decode cL_build 733 = .ok (.iload 8, 2) := by decide +kernel
theorem dL_build_735 : decode cL_build 735 = .ok (.iconst 5, 1) := by decide +kernel
theorem dL_build_736 : decode cL_build 736 = .ok (.ishr, 1) := by decide +kernel
theorem dL_build_737 : decode cL_build 737 = .ok (.iconst 2, 1) := by decide +kernel
theorem dL_build_738 : decode cL_build 738 = .ok (.invokestatic 18, 3) := by decide +kernel
theorem dL_build_741 : decode cL_build 741 = .ok (.iastore, 1) := by decide +kernel
theorem dL_build_742 : decode cL_build 742 = .ok (.dup, 1) := by decide +kernel
theorem dL_build_743 : decode cL_build 743 = .ok (.iconst 4, 1) := by decide +kernel
theorem dL_build_744 : decode cL_build 744 = .ok (.iconst 0, 1) := by decide +kernel
theorem dL_build_745 : decode cL_build 745 = .ok (.iastore, 1) := by decide +kernel
theorem dL_build_746 : decode cL_build 746 = .ok (.invokestatic 32, 3) := by decide +kernel
theorem dL_build_749 : decode cL_build 749 = .ok (.putfield 61, 3) := by decide +kernel
theorem dL_build_752 : decode cL_build 752 = .ok (.aload_n 0, 1) := by decide +kernel
theorem dL_build_753 : decode cL_build 753 = .ok (.iload 7, 2) := by decide +kernel
theorem dL_build_755 : decode cL_build 755 = .ok (.iload 8, 2) := by decide +kernel
theorem dL_build_757 : decode cL_build 757 = .ok (.iconst 5, 1) := by decide +kernel
theorem dL_build_758 : decode cL_build 758 = .ok (.ishr, 1) := by decide +kernel
theorem dL_build_759 : decode cL_build 759 = .ok (.iconst 2, 1) := by decide +kernel
theorem dL_build_760 : decode cL_build 760 = .ok (.invokestatic 18, 3) := by decide +kernel
theorem dL_build_763 : decode cL_build 763 = .ok (.iconst 1, 1) := by decide +kernel
theorem dL_build_764 : decode cL_build 764 = .ok (.if_icmp .ne 7, 3) := by decide +kernel
theorem dL_build_767 : decode cL_build 767 = .ok (.iconst 1, 1) := by decide +kernel
theorem dL_build_768 : decode cL_build 768 = .ok (.goto 4, 3) := by decide +kernel
theorem dL_build_771 : decode cL_build 771 = .ok (.iconst 0, 1) := by decide +kernel
theorem dL_build_772 : decode cL_build 772 = .ok (.invokevirtual 64, 3) := by decide +kernel
theorem dL_build_775 : decode cL_build 775 = .ok (.ifCond .eq 5, 3) := by decide +kernel
theorem dL_build_778 : decode cL_build 778 = .ok (.aconst_null, 1) := by decide +kernel
theorem dL_build_779 : decode cL_build 779 = .ok (.areturn, 1) := by decide +kernel
theorem dL_build_780 : decode cL_build 780 = .ok (.iinc 7 1, 3) := by decide +kernel
theorem dL_build_783 : decode cL_build 783 = .ok (.goto (-156), 3) := by decide +kernel
theorem dL_build_786 : decode cL_build 786 = .ok (.aload_n 3, 1) := by decide +kernel
theorem dL_build_787 : decode cL_build 787 = .ok (.areturn, 1) := by decide +kernel
theorem dL_act_0 : decode cL_act 0 = .ok (.aload_n 1, 1) := by decide +kernel
theorem dL_act_1 : decode cL_act 1 = .ok (.getfield 22, 3) := by decide +kernel
theorem dL_act_4 : decode cL_act 4 = .ok (.arraylength, 1) := by decide +kernel
theorem dL_act_5 : decode cL_act 5 = .ok (.istore_n 3, 1) := by decide +kernel
theorem dL_act_6 : decode cL_act 6 = .ok (.iload_n 2, 1) := by decide +kernel
theorem dL_act_7 : decode cL_act 7 = .ok (.iload_n 3, 1) := by decide +kernel
theorem dL_act_8 : decode cL_act 8 = .ok (.invokestatic 18, 3) := by decide +kernel
theorem dL_act_11 : decode cL_act 11 = .ok (.istore 4, 2) := by decide +kernel
theorem dL_act_13 : decode cL_act 13 = .ok (.aload_n 1, 1) := by decide +kernel
theorem dL_act_14 : decode cL_act 14 = .ok (.getfield 22, 3) := by decide +kernel
theorem dL_act_17 : decode cL_act 17 = .ok (.iload 4, 2) := by decide +kernel
theorem dL_act_19 : decode cL_act 19 = .ok (.aaload, 1) := by decide +kernel
theorem dL_act_20 : decode cL_act 20 = .ok (.astore 5, 2) := by decide +kernel
theorem dL_act_22 : decode cL_act 22 = .ok (.aload_n 1, 1) := by decide +kernel
theorem dL_act_23 : decode cL_act 23 = .ok (.getfield 61, 3) := by decide +kernel
theorem dL_act_26 : decode cL_act 26 = .ok (.arraylength, 1) := by decide +kernel
theorem dL_act_27 : decode cL_act 27 = .ok (.ifCond .ne 7, 3) := by decide +kernel
theorem dL_act_30 : decode cL_act 30 = .ok (.iconst (-1), 1) := by decide +kernel
theorem dL_act_31 : decode cL_act 31 = .ok (.goto 14, 3) := by decide +kernel
theorem dL_act_34 : decode cL_act 34 = .ok (.iload_n 2, 1) := by decide +kernel
theorem dL_act_35 : decode cL_act 35 = .ok (.iconst 3, 1) := by decide +kernel
theorem dL_act_36 : decode cL_act 36 = .ok (.ishr, 1) := by decide +kernel
theorem dL_act_37 : decode cL_act 37 = .ok (.aload_n 1, 1) := by decide +kernel
theorem dL_act_38 : decode cL_act 38 = .ok (.getfield 61, 3) := by decide +kernel
theorem dL_act_41 : decode cL_act 41 = .ok (.arraylength, 1) := by decide +kernel
theorem dL_act_42 : decode cL_act 42 = .ok (.invokestatic 18, 3) := by decide +kernel
theorem dL_act_45 : decode cL_act 45 = .ok (.istore 6, 2) := by decide +kernel
theorem dL_act_47 : decode cL_act 47 = .ok (.iload_n 2, 1) := by decide +kernel
theorem dL_act_48 : decode cL_act 48 = .ok (.bipush 6, 2) := by decide +kernel
theorem dL_act_50 : decode cL_act 50 = .ok (.ishr, 1) := by decide +kernel
theorem dL_act_51 : decode cL_act 51 = .ok (.bipush 6, 2) := by decide +kernel
theorem dL_act_53 : decode cL_act 53 = .ok (.invokestatic 18, 3) := by decide +kernel
theorem dL_act_56 : decode cL_act 56 = .ok (.tableswitch 379 0 4 #[36, 127, 194, 254, 322], 36) := by decide +kernel
theorem dL_act_92 : decode cL_act 92 = .ok (.aload 5, 2) := by decide +kernel
theorem dL_act_94 : decode cL_act 94 = .ok (.iconst 5, 1) := by decide +kernel
theorem dL_act_95 : decode cL_act 95 = .ok (.iaload, 1) := by decide +kernel
theorem dL_act_96 : decode cL_act 96 = .ok (.aload_n 1, 1) := by decide +kernel
theorem dL_act_97 : decode cL_act 97 = .ok (.iload 4, 2) := by decide +kernel
theorem dL_act_99 : decode cL_act 99 = .ok (.invokevirtual 39, 3) := by decide +kernel
theorem dL_act_102 : decode cL_act 102 = .ok (.iconst 4, 1) := by decide +kernel
theorem dL_act_103 : decode cL_act 103 = .ok (.idiv, 1) := by decide +kernel
theorem dL_act_104 : decode cL_act 104 = .ok (.if_icmp .le 5, 3) := by decide +kernel
theorem dL_act_107 : decode cL_act 107 = .ok (.iconst 1, 1) := by decide +kernel
theorem dL_act_108 : decode cL_act 108 = .ok (.ireturn, 1) := by decide +kernel
theorem dL_act_109 : decode cL_act 109 = .ok (.iconst 1, 1) := by decide +kernel
theorem dL_act_110 : decode cL_act 110 = .ok (.iload_n 2, 1) := by decide +kernel
theorem dL_act_111 : decode cL_act 111 = .ok (.iconst 2, 1) := by decide +kernel
theorem dL_act_112 : decode cL_act 112 = .ok (.ishr, 1) := by decide +kernel
theorem dL_act_113 : decode cL_act 113 = .ok (.bipush 100, 2) := by decide +kernel
theorem dL_act_115 : decode cL_act 115 = .ok (.invokestatic 18, 3) := by decide +kernel
theorem dL_act_118 : decode cL_act 118 = .ok (.iadd, 1) := by decide +kernel
theorem dL_act_119 : decode cL_act 119 = .ok (.istore 7, 2) := by decide +kernel
theorem dL_act_121 : decode cL_act 121 = .ok (.iload 7, 2) := by decide +kernel
theorem dL_act_123 : decode cL_act 123 = .ok (.bipush 100, 2) := by decide +kernel
theorem dL_act_125 : decode cL_act 125 = .ok (.aload 5, 2) := by decide +kernel
theorem dL_act_127 : decode cL_act 127 = .ok (.bipush 6, 2) := by decide +kernel
theorem dL_act_129 : decode cL_act 129 = .ok (.iaload, 1) := by decide +kernel
theorem dL_act_130 : decode cL_act 130 = .ok (.isub, 1) := by decide +kernel
theorem dL_act_131 : decode cL_act 131 = .ok (.aload_n 1, 1) := by decide +kernel
theorem dL_act_132 : decode cL_act 132 = .ok (.getfield 68, 3) := by decide +kernel
theorem dL_act_135 : decode cL_act 135 = .ok (.invokestatic 43, 3) := by decide +kernel
theorem dL_act_138 : decode cL_act 138 = .ok (.invokestatic 43, 3) := by decide +kernel
theorem dL_act_141 : decode cL_act 141 = .ok (.istore 8, 2) := by decide +kernel
theorem dL_act_143 : decode cL_act 143 = .ok (.aload 5, 2) := by decide +kernel
theorem dL_act_145 : decode cL_act 145 = .ok (.bipush 6, 2) := by decide +kernel
theorem dL_act_147 : decode cL_act 147 = .ok (.dup2, 1) := by decide +kernel
theorem dL_act_148 : decode cL_act 148 = .ok (.iaload, 1) := by decide +kernel
theorem dL_act_149 : decode cL_act 149 = .ok (.iload 8, 2) := by decide +kernel
theorem dL_act_151 : decode cL_act 151 = .ok (.iadd, 1) := by decide +kernel
theorem dL_act_152 : decode cL_act 152 = .ok (.iastore, 1) := by decide +kernel
theorem dL_act_153 : decode cL_act 153 = .ok (.aload_n 1, 1) := by decide +kernel
theorem dL_act_154 : decode cL_act 154 = .ok (.dup, 1) := by decide +kernel
theorem dL_act_155 : decode cL_act 155 = .ok (.getfield 68, 3) := by decide +kernel
theorem dL_act_158 : decode cL_act 158 = .ok (.iload 8, 2) := by decide +kernel
theorem dL_act_160 : decode cL_act 160 = .ok (.isub, 1) := by decide +kernel
theorem dL_act_161 : decode cL_act 161 = .ok (.putfield 68, 3) := by decide +kernel
theorem dL_act_164 : decode cL_act 164 = .ok (.aload_n 0, 1) := by decide +kernel
theorem dL_act_165 : decode cL_act 165 = .ok (.iload 4, 2) := by decide +kernel
theorem dL_act_167 : decode cL_act 167 = .ok (.iload 7, 2) := by decide +kernel
theorem dL_act_169 : decode cL_act 169 = .ok (.invokevirtual 72, 3) := by decide +kernel
theorem dL_act_172 : decode cL_act 172 = .ok (.iload 8, 2) := by decide +kernel
theorem dL_act_174 : decode cL_act 174 = .ok (.if_icmp .ne 7, 3) := by decide +kernel
theorem dL_act_177 : decode cL_act 177 = .ok (.iconst 1, 1) := by decide +kernel
theorem dL_act_178 : decode cL_act 178 = .ok (.goto 4, 3) := by decide +kernel
theorem dL_act_181 : decode cL_act 181 = .ok (.iconst 0, 1) := by decide +kernel
theorem dL_act_182 : decode cL_act 182 = .ok (.ireturn, 1) := by decide +kernel
theorem dL_act_183 : decode cL_act 183 = .ok (.aload 5, 2) := by decide +kernel
theorem dL_act_185 : decode cL_act 185 = .ok (.bipush 7, 2) := by decide +kernel
theorem dL_act_187 : decode cL_act 187 = .ok (.iaload, 1) := by decide +kernel
theorem dL_act_188 : decode cL_act 188 = .ok (.iconst 1, 1) := by decide +kernel
theorem dL_act_189 : decode cL_act 189 = .ok (.if_icmp .ne 7, 3) := by decide +kernel
theorem dL_act_192 : decode cL_act 192 = .ok (.iconst 1, 1) := by decide +kernel
theorem dL_act_193 : decode cL_act 193 = .ok (.goto 4, 3) := by decide +kernel
theorem dL_act_196 : decode cL_act 196 = .ok (.iconst 0, 1) := by decide +kernel
theorem dL_act_197 : decode cL_act 197 = .ok (.istore 9, 2) := by decide +kernel
theorem dL_act_199 : decode cL_act 199 = .ok (.aload 5, 2) := by decide +kernel
theorem dL_act_201 : decode cL_act 201 = .ok (.bipush 7, 2) := by decide +kernel
theorem dL_act_203 : decode cL_act 203 = .ok (.iload_n 2, 1) := by decide +kernel
theorem dL_act_204 : decode cL_act 204 = .ok (.iconst 2, 1) := by decide +kernel
theorem dL_act_205 : decode cL_act 205 = .ok (.ishr, 1) := by decide +kernel
theorem dL_act_206 : decode cL_act 206 = .ok (.iconst 4, 1) := by decide +kernel
theorem dL_act_207 : decode cL_act 207 = .ok (.invokestatic 18, 3) := by decide +kernel
theorem dL_act_210 : decode cL_act 210 = .ok (.ifCond .le 7, 3) := by decide +kernel
theorem dL_act_213 : decode cL_act 213 = .ok (.iconst 1, 1) := by decide +kernel
theorem dL_act_214 : decode cL_act 214 = .ok (.goto 4, 3) := by decide +kernel
theorem dL_act_217 : decode cL_act 217 = .ok (.iconst 0, 1) := by decide +kernel
theorem dL_act_218 : decode cL_act 218 = .ok (.iastore, 1) := by decide +kernel
theorem dL_act_219 : decode cL_act 219 = .ok (.aload_n 0, 1) := by decide +kernel
theorem dL_act_220 : decode cL_act 220 = .ok (.iload 4, 2) := by decide +kernel
theorem dL_act_222 : decode cL_act 222 = .ok (.aload 5, 2) := by decide +kernel
theorem dL_act_224 : decode cL_act 224 = .ok (.bipush 7, 2) := by decide +kernel
theorem dL_act_226 : decode cL_act 226 = .ok (.iaload, 1) := by decide +kernel
theorem dL_act_227 : decode cL_act 227 = .ok (.iconst 1, 1) := by decide +kernel
theorem dL_act_228 : decode cL_act 228 = .ok (.if_icmp .ne 7, 3) := by decide +kernel
theorem dL_act_231 : decode cL_act 231 = .ok (.iconst 1, 1) := by decide +kernel
theorem dL_act_232 : decode cL_act 232 = .ok (.goto 4, 3) := by decide +kernel
theorem dL_act_235 : decode cL_act 235 = .ok (.iconst 0, 1) := by decide +kernel
theorem dL_act_236 : decode cL_act 236 = .ok (.invokevirtual 75, 3) := by decide +kernel
theorem dL_act_239 : decode cL_act 239 = .ok (.iload 9, 2) := by decide +kernel
theorem dL_act_241 : decode cL_act 241 = .ok (.if_icmp .ne 7, 3) := by decide +kernel
theorem dL_act_244 : decode cL_act 244 = .ok (.iconst 1, 1) := by decide +kernel
theorem dL_act_245 : decode cL_act 245 = .ok (.goto 4, 3) := by decide +kernel
theorem dL_act_248 : decode cL_act 248 = .ok (.iconst 0, 1) := by decide +kernel
theorem dL_act_249 : decode cL_act 249 = .ok (.ireturn, 1) := by decide +kernel
theorem dL_act_250 : decode cL_act 250 = .ok (.iload_n 2, 1) := by decide +kernel
theorem dL_act_251 : decode cL_act 251 = .ok (.iconst 2, 1) := by decide +kernel
theorem dL_act_252 : decode cL_act 252 = .ok (.ishr, 1) := by decide +kernel
theorem dL_act_253 : decode cL_act 253 = .ok (.sipush 4001, 3) := by decide +kernel
theorem dL_act_256 : decode cL_act 256 = .ok (.invokestatic 18, 3) := by decide +kernel
theorem dL_act_259 : decode cL_act 259 = .ok (.sipush 1500, 3) := by decide +kernel
theorem dL_act_262 : decode cL_act 262 = .ok (.isub, 1) := by decide +kernel
theorem dL_act_263 : decode cL_act 263 = .ok (.istore 10, 2) := by decide +kernel
theorem dL_act_265 : decode cL_act 265 = .ok (.aload 5, 2) := by decide +kernel
theorem dL_act_267 : decode cL_act 267 = .ok (.iconst 5, 1) := by decide +kernel
theorem dL_act_268 : decode cL_act 268 = .ok (.iconst 0, 1) := by decide +kernel
theorem dL_act_269 : decode cL_act 269 = .ok (.aload_n 1, 1) := by decide +kernel
theorem dL_act_270 : decode cL_act 270 = .ok (.iload 4, 2) := by decide +kernel
theorem dL_act_272 : decode cL_act 272 = .ok (.invokevirtual 39, 3) := by decide +kernel
theorem dL_act_275 : decode cL_act 275 = .ok (.aload 5, 2) := by decide +kernel
theorem dL_act_277 : decode cL_act 277 = .ok (.iconst 5, 1) := by decide +kernel
theorem dL_act_278 : decode cL_act 278 = .ok (.iaload, 1) := by decide +kernel
theorem dL_act_279 : decode cL_act 279 = .ok (.iload 10, 2) := by decide +kernel
theorem dL_act_281 : decode cL_act 281 = .ok (.iadd, 1) := by decide +kernel
theorem dL_act_282 : decode cL_act 282 = .ok (.invokestatic 43, 3) := by decide +kernel
theorem dL_act_285 : decode cL_act 285 = .ok (.invokestatic 78, 3) := by decide +kernel
theorem dL_act_288 : decode cL_act 288 = .ok (.iastore, 1) := by decide +kernel
theorem dL_act_289 : decode cL_act 289 = .ok (.aload_n 0, 1) := by decide +kernel
theorem dL_act_290 : decode cL_act 290 = .ok (.iload 4, 2) := by decide +kernel
theorem dL_act_292 : decode cL_act 292 = .ok (.iload 10, 2) := by decide +kernel
theorem dL_act_294 : decode cL_act 294 = .ok (.invokevirtual 48, 3) := by decide +kernel
theorem dL_act_297 : decode cL_act 297 = .ok (.aload 5, 2) := by decide +kernel
theorem dL_act_299 : decode cL_act 299 = .ok (.iconst 5, 1) := by decide +kernel
theorem dL_act_300 : decode cL_act 300 = .ok (.iaload, 1) := by decide +kernel
theorem dL_act_301 : decode cL_act 301 = .ok (.if_icmp .ne 7, 3) := by decide +kernel
theorem dL_act_304 : decode cL_act 304 = .ok (.iconst 1, 1) := by decide +kernel
theorem dL_act_305 : decode cL_act 305 = .ok (.goto 4, 3) := by decide +kernel
theorem dL_act_308 : decode cL_act 308 = .ok (.iconst 0, 1) := by decide +kernel
theorem dL_act_309 : decode cL_act 309 = .ok (.ireturn, 1) := by decide +kernel
theorem dL_act_310 : decode cL_act 310 = .ok (.iload 6, 2) := by decide +kernel
theorem dL_act_312 : decode cL_act 312 = .ok (.ifCond .lt 17, 3) := by decide +kernel
theorem dL_act_315 : decode cL_act 315 = .ok (.aload_n 1, 1) := by decide +kernel
theorem dL_act_316 : decode cL_act 316 = .ok (.getfield 61, 3) := by decide +kernel
theorem dL_act_319 : decode cL_act 319 = .ok (.iload 6, 2) := by decide +kernel
theorem dL_act_321 : decode cL_act 321 = .ok (.aaload, 1) := by decide +kernel
theorem dL_act_322 : decode cL_act 322 = .ok (.iconst 2, 1) := by decide +kernel
theorem dL_act_323 : decode cL_act 323 = .ok (.iaload, 1) := by decide +kernel
theorem dL_act_324 : decode cL_act 324 = .ok (.bipush 10, 2) := by decide +kernel
theorem dL_act_326 : decode cL_act 326 = .ok (.if_icmp .ne 5, 3) := by decide +kernel
theorem dL_act_329 : decode cL_act 329 = .ok (.iconst 1, 1) := by decide +kernel
theorem dL_act_330 : decode cL_act 330 = .ok (.ireturn, 1) := by decide +kernel
theorem dL_act_331 : decode cL_act 331 = .ok (.aload_n 1, 1) := by decide +kernel
theorem dL_act_332 : decode cL_act 332 = .ok (.aload_n 1, 1) := by decide +kernel
theorem dL_act_333 : decode cL_act 333 = .ok (.getfield 61, 3) := by decide +kernel
theorem dL_act_336 : decode cL_act 336 = .ok (.iload 6, 2) := by decide +kernel
theorem dL_act_338 : decode cL_act 338 = .ok (.aaload, 1) := by decide +kernel
theorem dL_act_339 : decode cL_act 339 = .ok (.iconst 1, 1) := by decide +kernel
theorem dL_act_340 : decode cL_act 340 = .ok (.iaload, 1) := by decide +kernel
theorem dL_act_341 : decode cL_act 341 = .ok (.iload 4, 2) := by decide +kernel
theorem dL_act_343 : decode cL_act 343 = .ok (.invokevirtual 81, 3) := by decide +kernel
theorem dL_act_346 : decode cL_act 346 = .ok (.istore 11, 2) := by decide +kernel
theorem dL_act_348 : decode cL_act 348 = .ok (.aload_n 1, 1) := by decide +kernel
theorem dL_act_349 : decode cL_act 349 = .ok (.getfield 61, 3) := by decide +kernel
theorem dL_act_352 : decode cL_act 352 = .ok (.iload 6, 2) := by decide +kernel
theorem dL_act_354 : decode cL_act 354 = .ok (.aaload, 1) := by decide +kernel
theorem dL_act_355 : decode cL_act 355 = .ok (.iconst 1, 1) := by decide +kernel
theorem dL_act_356 : decode cL_act 356 = .ok (.iload 4, 2) := by decide +kernel
theorem dL_act_358 : decode cL_act 358 = .ok (.iastore, 1) := by decide +kernel
theorem dL_act_359 : decode cL_act 359 = .ok (.aload_n 0, 1) := by decide +kernel
theorem dL_act_360 : decode cL_act 360 = .ok (.iload 6, 2) := by decide +kernel
theorem dL_act_362 : decode cL_act 362 = .ok (.iload 4, 2) := by decide +kernel
theorem dL_act_364 : decode cL_act 364 = .ok (.invokevirtual 84, 3) := by decide +kernel
theorem dL_act_367 : decode cL_act 367 = .ok (.iload 11, 2) := by decide +kernel
theorem dL_act_369 : decode cL_act 369 = .ok (.if_icmp .ne 7, 3) := by decide +kernel
theorem dL_act_372 : decode cL_act 372 = .ok (.iconst 1, 1) := by decide +kernel
theorem dL_act_373 : decode cL_act 373 = .ok (.goto 4, 3) := by decide +kernel
theorem dL_act_376 : decode cL_act 376 = .ok (.iconst 0, 1) := by decide +kernel
theorem dL_act_377 : decode cL_act 377 = .ok (.ireturn, 1) := by decide +kernel
theorem dL_act_378 : decode cL_act 378 = .ok (.iconst 1, 1) := by decide +kernel
theorem dL_act_379 : decode cL_act 379 = .ok (.iload_n 2, 1) := by decide +kernel
theorem dL_act_380 : decode cL_act 380 = .ok (.iconst 3, 1) := by decide +kernel
theorem dL_act_381 : decode cL_act 381 = .ok (.ishr, 1) := by decide +kernel
theorem dL_act_382 : decode cL_act 382 = .ok (.bipush 100, 2) := by decide +kernel
theorem dL_act_384 : decode cL_act 384 = .ok (.invokestatic 18, 3) := by decide +kernel
theorem dL_act_387 : decode cL_act 387 = .ok (.iadd, 1) := by decide +kernel
theorem dL_act_388 : decode cL_act 388 = .ok (.istore 12, 2) := by decide +kernel
theorem dL_act_390 : decode cL_act 390 = .ok (.aload_n 1, 1) := by decide +kernel
theorem dL_act_391 : decode cL_act 391 = .ok (.getfield 68, 3) := by decide +kernel
theorem dL_act_394 : decode cL_act 394 = .ok (.iload 12, 2) := by decide +kernel
theorem dL_act_396 : decode cL_act 396 = .ok (.iadd, 1) := by decide +kernel
theorem dL_act_397 : decode cL_act 397 = .ok (.sipush 500, 3) := by decide +kernel
theorem dL_act_400 : decode cL_act 400 = .ok (.if_icmp .le 5, 3) := by decide +kernel
theorem dL_act_403 : decode cL_act 403 = .ok (.iconst 1, 1) := by decide +kernel
theorem dL_act_404 : decode cL_act 404 = .ok (.ireturn, 1) := by decide +kernel
theorem dL_act_405 : decode cL_act 405 = .ok (.aload_n 1, 1) := by decide +kernel
theorem dL_act_406 : decode cL_act 406 = .ok (.dup, 1) := by decide +kernel
theorem dL_act_407 : decode cL_act 407 = .ok (.getfield 68, 3) := by decide +kernel
theorem dL_act_410 : decode cL_act 410 = .ok (.iload 12, 2) := by decide +kernel
theorem dL_act_412 : decode cL_act 412 = .ok (.iadd, 1) := by decide +kernel
theorem dL_act_413 : decode cL_act 413 = .ok (.putfield 68, 3) := by decide +kernel
theorem dL_act_416 : decode cL_act 416 = .ok (.aload_n 0, 1) := by decide +kernel
theorem dL_act_417 : decode cL_act 417 = .ok (.iload 12, 2) := by decide +kernel
theorem dL_act_419 : decode cL_act 419 = .ok (.invokevirtual 87, 3) := by decide +kernel
theorem dL_act_422 : decode cL_act 422 = .ok (.aload_n 1, 1) := by decide +kernel
theorem dL_act_423 : decode cL_act 423 = .ok (.getfield 68, 3) := by decide +kernel
theorem dL_act_426 : decode cL_act 426 = .ok (.if_icmp .ne 7, 3) := by decide +kernel
theorem dL_act_429 : decode cL_act 429 = .ok (.iconst 1, 1) := by decide +kernel
theorem dL_act_430 : decode cL_act 430 = .ok (.goto 4, 3) := by decide +kernel
theorem dL_act_433 : decode cL_act 433 = .ok (.iconst 0, 1) := by decide +kernel
theorem dL_act_434 : decode cL_act 434 = .ok (.ireturn, 1) := by decide +kernel
theorem dL_act_435 : decode cL_act 435 = .ok (.iload 6, 2) := by decide +kernel
theorem dL_act_437 : decode cL_act 437 = .ok (.ifCond .ge 5, 3) := by decide +kernel
theorem dL_act_440 : decode cL_act 440 = .ok (.iconst 1, 1) := by decide +kernel
theorem dL_act_441 : decode cL_act 441 = .ok (.ireturn, 1) := by decide +kernel
theorem dL_act_442 : decode cL_act 442 = .ok (.aload_n 1, 1) := by decide +kernel
theorem dL_act_443 : decode cL_act 443 = .ok (.getfield 61, 3) := by decide +kernel
theorem dL_act_446 : decode cL_act 446 = .ok (.iload 6, 2) := by decide +kernel
theorem dL_act_448 : decode cL_act 448 = .ok (.aaload, 1) := by decide +kernel
theorem dL_act_449 : decode cL_act 449 = .ok (.iconst 3, 1) := by decide +kernel
theorem dL_act_450 : decode cL_act 450 = .ok (.iaload, 1) := by decide +kernel
theorem dL_act_451 : decode cL_act 451 = .ok (.iconst 1, 1) := by decide +kernel
theorem dL_act_452 : decode cL_act 452 = .ok (.if_icmp .ne 7, 3) := by decide +kernel
theorem dL_act_455 : decode cL_act 455 = .ok (.iconst 1, 1) := by decide +kernel
theorem dL_act_456 : decode cL_act 456 = .ok (.goto 4, 3) := by decide +kernel
theorem dL_act_459 : decode cL_act 459 = .ok (.iconst 0, 1) := by decide +kernel
theorem dL_act_460 : decode cL_act 460 = .ok (.istore 13, 2) := by decide +kernel
theorem dL_act_462 : decode cL_act 462 = .ok (.aload_n 1, 1) := by decide +kernel
theorem dL_act_463 : decode cL_act 463 = .ok (.getfield 61, 3) := by decide +kernel
theorem dL_act_466 : decode cL_act 466 = .ok (.iload 6, 2) := by decide +kernel
theorem dL_act_468 : decode cL_act 468 = .ok (.aaload, 1) := by decide +kernel
theorem dL_act_469 : decode cL_act 469 = .ok (.iconst 3, 1) := by decide +kernel
theorem dL_act_470 : decode cL_act 470 = .ok (.iload_n 2, 1) := by decide +kernel
theorem dL_act_471 : decode cL_act 471 = .ok (.iconst 2, 1) := by decide +kernel
theorem dL_act_472 : decode cL_act 472 = .ok (.ishr, 1) := by decide +kernel
theorem dL_act_473 : decode cL_act 473 = .ok (.iconst 2, 1) := by decide +kernel
theorem dL_act_474 : decode cL_act 474 = .ok (.invokestatic 18, 3) := by decide +kernel
theorem dL_act_477 : decode cL_act 477 = .ok (.iastore, 1) := by decide +kernel
theorem dL_act_478 : decode cL_act 478 = .ok (.aload_n 0, 1) := by decide +kernel
theorem dL_act_479 : decode cL_act 479 = .ok (.iload 6, 2) := by decide +kernel
theorem dL_act_481 : decode cL_act 481 = .ok (.aload_n 1, 1) := by decide +kernel
theorem dL_act_482 : decode cL_act 482 = .ok (.getfield 61, 3) := by decide +kernel
theorem dL_act_485 : decode cL_act 485 = .ok (.iload 6, 2) := by decide +kernel
theorem dL_act_487 : decode cL_act 487 = .ok (.aaload, 1) := by decide +kernel
theorem dL_act_488 : decode cL_act 488 = .ok (.iconst 3, 1) := by decide +kernel
theorem dL_act_489 : decode cL_act 489 = .ok (.iaload, 1) := by decide +kernel
theorem dL_act_490 : decode cL_act 490 = .ok (.iconst 1, 1) := by decide +kernel
theorem dL_act_491 : decode cL_act 491 = .ok (.if_icmp .ne 7, 3) := by decide +kernel
theorem dL_act_494 : decode cL_act 494 = .ok (.iconst 1, 1) := by decide +kernel
theorem dL_act_495 : decode cL_act 495 = .ok (.goto 4, 3) := by decide +kernel
theorem dL_act_498 : decode cL_act 498 = .ok (.iconst 0, 1) := by decide +kernel
theorem dL_act_499 : decode cL_act 499 = .ok (.invokevirtual 64, 3) := by decide +kernel
theorem dL_act_502 : decode cL_act 502 = .ok (.iload 13, 2) := by decide +kernel
theorem dL_act_504 : decode cL_act 504 = .ok (.if_icmp .ne 7, 3) := by decide +kernel
theorem dL_act_507 : decode cL_act 507 = .ok (.iconst 1, 1) := by decide +kernel
theorem dL_act_508 : decode cL_act 508 = .ok (.goto 4, 3) := by decide +kernel
theorem dL_act_511 : decode cL_act 511 = .ok (.iconst 0, 1) := by decide +kernel
theorem dL_act_512 : decode cL_act 512 = .ok (.ireturn, 1) := by decide +kernel
theorem dL_law_0 : decode cL_law 0 = .ok (.new 27, 3) := by decide +kernel
theorem dL_law_3 : decode cL_law 3 = .ok (.dup, 1) := by decide +kernel
theorem dL_law_4 : decode cL_law 4 = .ok (.invokespecial 90, 3) := by decide +kernel
theorem dL_law_7 : decode cL_law 7 = .ok (.astore_n 1, 1) := by decide +kernel
theorem dL_law_8 : decode cL_law 8 = .ok (.aload_n 1, 1) := by decide +kernel
theorem dL_law_9 : decode cL_law 9 = .ok (.aload_n 0, 1) := by decide +kernel
theorem dL_law_10 : decode cL_law 10 = .ok (.bipush 7, 2) := by decide +kernel
theorem dL_law_12 : decode cL_law 12 = .ok (.invokestatic 91, 3) := by decide +kernel
theorem dL_law_15 : decode cL_law 15 = .ok (.astore_n 2, 1) := by decide +kernel
theorem dL_law_16 : decode cL_law 16 = .ok (.aload_n 2, 1) := by decide +kernel
theorem dL_law_17 : decode cL_law 17 = .ok (.ifnonnull 5, 3) := by decide +kernel
theorem dL_law_20 : decode cL_law 20 = .ok (.iconst 0, 1) := by decide +kernel
theorem dL_law_21 : decode cL_law 21 = .ok (.ireturn, 1) := by decide +kernel
theorem dL_law_22 : decode cL_law 22 = .ok (.aload_n 2, 1) := by decide +kernel
theorem dL_law_23 : decode cL_law 23 = .ok (.getfield 22, 3) := by decide +kernel
theorem dL_law_26 : decode cL_law 26 = .ok (.arraylength, 1) := by decide +kernel
theorem dL_law_27 : decode cL_law 27 = .ok (.istore_n 3, 1) := by decide +kernel
theorem dL_law_28 : decode cL_law 28 = .ok (.aload_n 2, 1) := by decide +kernel
theorem dL_law_29 : decode cL_law 29 = .ok (.getfield 61, 3) := by decide +kernel
theorem dL_law_32 : decode cL_law 32 = .ok (.arraylength, 1) := by decide +kernel
theorem dL_law_33 : decode cL_law 33 = .ok (.istore 4, 2) := by decide +kernel
theorem dL_law_35 : decode cL_law 35 = .ok (.iconst 0, 1) := by decide +kernel
theorem dL_law_36 : decode cL_law 36 = .ok (.istore 5, 2) := by decide +kernel
theorem dL_law_38 : decode cL_law 38 = .ok (.iload 5, 2) := by decide +kernel
theorem dL_law_40 : decode cL_law 40 = .ok (.bipush 40, 2) := by decide +kernel
theorem dL_law_42 : decode cL_law 42 = .ok (.if_icmp .ge 1030, 3) := by decide +kernel
theorem dL_law_45 : decode cL_law 45 = .ok (.aload_n 0, 1) := by decide +kernel
theorem dL_law_46 : decode cL_law 46 = .ok (.iload 5, 2) := by decide +kernel
theorem dL_law_48 : decode cL_law 48 = .ok (.bipush 16, 2) := by decide +kernel
theorem dL_law_50 : decode cL_law 50 = .ok (.irem, 1) := by decide +kernel
theorem dL_law_51 : decode cL_law 51 = .ok (.invokestatic 12, 3) := by decide +kernel
theorem dL_law_54 : decode cL_law 54 = .ok (.iload 5, 2) := by decide +kernel
theorem dL_law_56 : decode cL_law 56 = .ok (.bipush 16, 2) := by decide +kernel
theorem dL_law_58 : decode cL_law 58 = .ok (.idiv, 1) := by decide +kernel
theorem dL_law_59 : decode cL_law 59 = .ok (.iconst 3, 1) := by decide +kernel
theorem dL_law_60 : decode cL_law 60 = .ok (.imul, 1) := by decide +kernel
theorem dL_law_61 : decode cL_law 61 = .ok (.ishr, 1) := by decide +kernel
theorem dL_law_62 : decode cL_law 62 = .ok (.bipush 7, 2) := by decide +kernel
theorem dL_law_64 : decode cL_law 64 = .ok (.iload 5, 2) := by decide +kernel
theorem dL_law_66 : decode cL_law 66 = .ok (.imul, 1) := by decide +kernel
theorem dL_law_67 : decode cL_law 67 = .ok (.iadd, 1) := by decide +kernel
theorem dL_law_68 : decode cL_law 68 = .ok (.istore 6, 2) := by decide +kernel
theorem dL_law_70 : decode cL_law 70 = .ok (.aload_n 1, 1) := by decide +kernel
theorem dL_law_71 : decode cL_law 71 = .ok (.aload_n 2, 1) := by decide +kernel
theorem dL_law_72 : decode cL_law 72 = .ok (.iload 6, 2) := by decide +kernel
theorem dL_law_74 : decode cL_law 74 = .ok (.invokestatic 95, 3) := by decide +kernel
theorem dL_law_77 : decode cL_law 77 = .ok (.ifCond .ne 5, 3) := by decide +kernel
theorem dL_law_80 : decode cL_law 80 = .ok (.iconst 0, 1) := by decide +kernel
theorem dL_law_81 : decode cL_law 81 = .ok (.ireturn, 1) := by decide +kernel
theorem dL_law_82 : decode cL_law 82 = .ok (.iload_n 3, 1) := by decide +kernel
theorem dL_law_83 : decode cL_law 83 = .ok (.bipush 12, 2) := by decide +kernel
theorem dL_law_85 : decode cL_law 85 = .ok (.multianewarray 99 2, 4) := by decide +kernel
theorem dL_law_89 : decode cL_law 89 = .ok (.astore 7, 2) := by decide +kernel
theorem dL_law_91 : decode cL_law 91 = .ok (.iconst 0, 1) := by decide +kernel
theorem dL_law_92 : decode cL_law 92 = .ok (.istore 8, 2) := by decide +kernel
theorem dL_law_94 : decode cL_law 94 = .ok (.iload 8, 2) := by decide +kernel
theorem dL_law_96 : decode cL_law 96 = .ok (.iload_n 3, 1) := by decide +kernel
theorem dL_law_97 : decode cL_law 97 = .ok (.if_icmp .ge 41, 3) := by decide +kernel
theorem dL_law_100 : decode cL_law 100 = .ok (.iconst 0, 1) := by decide +kernel
theorem dL_law_101 : decode cL_law 101 = .ok (.istore 9, 2) := by decide +kernel
theorem dL_law_103 : decode cL_law 103 = .ok (.iload 9, 2) := by decide +kernel
theorem dL_law_105 : decode cL_law 105 = .ok (.bipush 12, 2) := by decide +kernel
theorem dL_law_107 : decode cL_law 107 = .ok (.if_icmp .ge 25, 3) := by decide +kernel
theorem dL_law_110 : decode cL_law 110 = .ok (.aload 7, 2) := by decide +kernel
theorem dL_law_112 : decode cL_law 112 = .ok (.iload 8, 2) := by decide +kernel
theorem dL_law_114 : decode cL_law 114 = .ok (.aaload, 1) := by decide +kernel
theorem dL_law_115 : decode cL_law 115 = .ok (.iload 9, 2) := by decide +kernel
theorem dL_law_117 : decode cL_law 117 = .ok (.aload_n 1, 1) := by decide +kernel
theorem dL_law_118 : decode cL_law 118 = .ok (.iload 8, 2) := by decide +kernel
theorem dL_law_120 : decode cL_law 120 = .ok (.iload 9, 2) := by decide +kernel
theorem dL_law_122 : decode cL_law 122 = .ok (.invokevirtual 100, 3) := by decide +kernel
theorem dL_law_125 : decode cL_law 125 = .ok (.iastore, 1) := by decide +kernel
theorem dL_law_126 : decode cL_law 126 = .ok (.iinc 9 1, 3) := by decide +kernel
theorem dL_law_129 : decode cL_law 129 = .ok (.goto (-26), 3) := by decide +kernel
theorem dL_law_132 : decode cL_law 132 = .ok (.iinc 8 1, 3) := by decide +kernel
theorem dL_law_135 : decode cL_law 135 = .ok (.goto (-41), 3) := by decide +kernel
theorem dL_law_138 : decode cL_law 138 = .ok (.iload 4, 2) := by decide +kernel
theorem dL_law_140 : decode cL_law 140 = .ok (.bipush 6, 2) := by decide +kernel
theorem dL_law_142 : decode cL_law 142 = .ok (.multianewarray 99 2, 4) := by decide +kernel
theorem dL_law_146 : decode cL_law 146 = .ok (.astore 8, 2) := by decide +kernel
theorem dL_law_148 : decode cL_law 148 = .ok (.iconst 0, 1) := by decide +kernel
theorem dL_law_149 : decode cL_law 149 = .ok (.istore 9, 2) := by decide +kernel
theorem dL_law_151 : decode cL_law 151 = .ok (.iload 9, 2) := by decide +kernel
theorem dL_law_153 : decode cL_law 153 = .ok (.iload 4, 2) := by decide +kernel
theorem dL_law_155 : decode cL_law 155 = .ok (.if_icmp .ge 41, 3) := by decide +kernel
theorem dL_law_158 : decode cL_law 158 = .ok (.iconst 0, 1) := by decide +kernel
theorem dL_law_159 : decode cL_law 159 = .ok (.istore 10, 2) := by decide +kernel
theorem dL_law_161 : decode cL_law 161 = .ok (.iload 10, 2) := by decide +kernel
theorem dL_law_163 : decode cL_law 163 = .ok (.bipush 6, 2) := by decide +kernel
theorem dL_law_165 : decode cL_law 165 = .ok (.if_icmp .ge 25, 3) := by decide +kernel
theorem dL_law_168 : decode cL_law 168 = .ok (.aload 8, 2) := by decide +kernel
theorem dL_law_170 : decode cL_law 170 = .ok (.iload 9, 2) := by decide +kernel
theorem dL_law_172 : decode cL_law 172 = .ok (.aaload, 1) := by decide +kernel
theorem dL_law_173 : decode cL_law 173 = .ok (.iload 10, 2) := by decide +kernel
theorem dL_law_175 : decode cL_law 175 = .ok (.aload_n 1, 1) := by decide +kernel
theorem dL_law_176 : decode cL_law 176 = .ok (.iload 9, 2) := by decide +kernel
theorem dL_law_178 : decode cL_law 178 = .ok (.iload 10, 2) := by decide +kernel
theorem dL_law_180 : decode cL_law 180 = .ok (.invokevirtual 103, 3) := by decide +kernel
theorem dL_law_183 : decode cL_law 183 = .ok (.iastore, 1) := by decide +kernel
theorem dL_law_184 : decode cL_law 184 = .ok (.iinc 10 1, 3) := by decide +kernel
theorem dL_law_187 : decode cL_law 187 = .ok (.goto (-26), 3) := by decide +kernel
theorem dL_law_190 : decode cL_law 190 = .ok (.iinc 9 1, 3) := by decide +kernel
theorem dL_law_193 : decode cL_law 193 = .ok (.goto (-42), 3) := by decide +kernel
theorem dL_law_196 : decode cL_law 196 = .ok (.iload 6, 2) := by decide +kernel
theorem dL_law_198 : decode cL_law 198 = .ok (.iconst 3, 1) := by decide +kernel
theorem dL_law_199 : decode cL_law 199 = .ok (.ishr, 1) := by decide +kernel
theorem dL_law_200 : decode cL_law 200 = .ok (.iload_n 3, 1) := by decide +kernel
theorem dL_law_201 : decode cL_law 201 = .ok (.invokestatic 18, 3) := by decide +kernel
theorem dL_law_204 : decode cL_law 204 = .ok (.istore 9, 2) := by decide +kernel
theorem dL_law_206 : decode cL_law 206 = .ok (.aload_n 1, 1) := by decide +kernel
theorem dL_law_207 : decode cL_law 207 = .ok (.iload 9, 2) := by decide +kernel
theorem dL_law_209 : decode cL_law 209 = .ok (.iconst 1, 1) := by decide +kernel
theorem dL_law_210 : decode cL_law 210 = .ok (.invokevirtual 106, 3) := by decide +kernel
theorem dL_law_213 : decode cL_law 213 = .ok (.istore 10, 2) := by decide +kernel
theorem dL_law_215 : decode cL_law 215 = .ok (.aload_n 1, 1) := by decide +kernel
theorem dL_law_216 : decode cL_law 216 = .ok (.iload 9, 2) := by decide +kernel
theorem dL_law_218 : decode cL_law 218 = .ok (.invokevirtual 109, 3) := by decide +kernel
theorem dL_law_221 : decode cL_law 221 = .ok (.istore 11, 2) := by decide +kernel
theorem dL_law_223 : decode cL_law 223 = .ok (.iload 5, 2) := by decide +kernel
theorem dL_law_225 : decode cL_law 225 = .ok (.iconst 5, 1) := by decide +kernel
theorem dL_law_226 : decode cL_law 226 = .ok (.irem, 1) := by decide +kernel
theorem dL_law_227 : decode cL_law 227 = .ok (.ifCond .ne 13, 3) := by decide +kernel
theorem dL_law_230 : decode cL_law 230 = .ok (.aload_n 1, 1) := by decide +kernel
theorem dL_law_231 : decode cL_law 231 = .ok (.iload 9, 2) := by decide +kernel
theorem dL_law_233 : decode cL_law 233 = .ok (.iconst 2, 1) := by decide +kernel
theorem dL_law_234 : decode cL_law 234 = .ok (.invokevirtual 112, 3) := by decide +kernel
theorem dL_law_237 : decode cL_law 237 = .ok (.goto 4, 3) := by decide +kernel
theorem dL_law_240 : decode cL_law 240 = .ok (.iconst (-1), 1) := by decide +kernel
theorem dL_law_241 : decode cL_law 241 = .ok (.istore 12, 2) := by decide +kernel
theorem dL_law_243 : decode cL_law 243 = .ok (.aload_n 1, 1) := by decide +kernel
theorem dL_law_244 : decode cL_law 244 = .ok (.iconst 4, 1) := by decide +kernel
theorem dL_law_245 : decode cL_law 245 = .ok (.invokevirtual 115, 3) := by decide +kernel
theorem dL_law_248 : decode cL_law 248 = .ok (.istore 13, 2) := by decide +kernel
theorem dL_law_250 : decode cL_law 250 = .ok (.aload_n 1, 1) := by decide +kernel
theorem dL_law_251 : decode cL_law 251 = .ok (.iconst 1, 1) := by decide +kernel
theorem dL_law_252 : decode cL_law 252 = .ok (.invokevirtual 118, 3) := by decide +kernel
theorem dL_law_255 : decode cL_law 255 = .ok (.istore 14, 2) := by decide +kernel
theorem dL_law_257 : decode cL_law 257 = .ok (.aload_n 2, 1) := by decide +kernel
theorem dL_law_258 : decode cL_law 258 = .ok (.invokevirtual 121, 3) := by decide +kernel
theorem dL_law_261 : decode cL_law 261 = .ok (.pop, 1) := by decide +kernel
theorem dL_law_262 : decode cL_law 262 = .ok (.aload_n 1, 1) := by decide +kernel
theorem dL_law_263 : decode cL_law 263 = .ok (.iload 9, 2) := by decide +kernel
theorem dL_law_265 : decode cL_law 265 = .ok (.iconst 5, 1) := by decide +kernel
theorem dL_law_266 : decode cL_law 266 = .ok (.invokevirtual 100, 3) := by decide +kernel
theorem dL_law_269 : decode cL_law 269 = .ok (.iload 10, 2) := by decide +kernel
theorem dL_law_271 : decode cL_law 271 = .ok (.if_icmp .ne 32, 3) := by decide +kernel
theorem dL_law_274 : decode cL_law 274 = .ok (.aload_n 1, 1) := by decide +kernel
theorem dL_law_275 : decode cL_law 275 = .ok (.iconst 0, 1) := by decide +kernel
theorem dL_law_276 : decode cL_law 276 = .ok (.invokevirtual 115, 3) := by decide +kernel
theorem dL_law_279 : decode cL_law 279 = .ok (.iload 5, 2) := by decide +kernel
theorem dL_law_281 : decode cL_law 281 = .ok (.iconst 1, 1) := by decide +kernel
theorem dL_law_282 : decode cL_law 282 = .ok (.iadd, 1) := by decide +kernel
theorem dL_law_283 : decode cL_law 283 = .ok (.if_icmp .ne 20, 3) := by decide +kernel
theorem dL_law_286 : decode cL_law 286 = .ok (.aload_n 1, 1) := by decide +kernel
theorem dL_law_287 : decode cL_law 287 = .ok (.iconst 4, 1) := by decide +kernel
theorem dL_law_288 : decode cL_law 288 = .ok (.invokevirtual 115, 3) := by decide +kernel
theorem dL_law_291 : decode cL_law 291 = .ok (.iload 13, 2) := by decide +kernel
theorem dL_law_293 : decode cL_law 293 = .ok (.if_icmp .ne 10, 3) := by decide +kernel
theorem dL_law_296 : decode cL_law 296 = .ok (.iload 12, 2) := by decide +kernel
theorem dL_law_298 : decode cL_law 298 = .ok (.bipush 80, 2) := by decide +kernel
theorem dL_law_300 : decode cL_law 300 = .ok (.if_icmp .le 5, 3) := by decide +kernel
theorem dL_law_303 : decode cL_law 303 = .ok (.iconst 0, 1) := by decide +kernel
theorem dL_law_304 : decode cL_law 304 = .ok (.ireturn, 1) := by decide +kernel
theorem dL_law_305 : decode cL_law 305 = .ok (.iload 11, 2) := by decide +kernel
theorem dL_law_307 : decode cL_law 307 = .ok (.ifCond .ne 7, 3) := by decide +kernel
theorem dL_law_310 : decode cL_law 310 = .ok (.iconst 1, 1) := by decide +kernel
theorem dL_law_311 : decode cL_law 311 = .ok (.goto 4, 3) := by decide +kernel
theorem dL_law_314 : decode cL_law 314 = .ok (.iconst 0, 1) := by decide +kernel
theorem dL_law_315 : decode cL_law 315 = .ok (.aload 7, 2) := by decide +kernel
theorem dL_law_317 : decode cL_law 317 = .ok (.iload 9, 2) := by decide +kernel
theorem dL_law_319 : decode cL_law 319 = .ok (.aaload, 1) := by decide +kernel
theorem dL_law_320 : decode cL_law 320 = .ok (.iconst 5, 1) := by decide +kernel
theorem dL_law_321 : decode cL_law 321 = .ok (.iaload, 1) := by decide +kernel
theorem dL_law_322 : decode cL_law 322 = .ok (.ifCond .ne 7, 3) := by decide +kernel
theorem dL_law_325 : decode cL_law 325 = .ok (.iconst 1, 1) := by decide +kernel
theorem dL_law_326 : decode cL_law 326 = .ok (.goto 4, 3) := by decide +kernel
theorem dL_law_329 : decode cL_law 329 = .ok (.iconst 0, 1) := by decide +kernel
theorem dL_law_330 : decode cL_law 330 = .ok (.if_icmp .ne 56, 3) := by decide +kernel
theorem dL_law_333 : decode cL_law 333 = .ok (.iload 11, 2) := by decide +kernel
theorem dL_law_335 : decode cL_law 335 = .ok (.iconst 1, 1) := by decide +kernel
theorem dL_law_336 : decode cL_law 336 = .ok (.if_icmp .ne 7, 3) := by decide +kernel
theorem dL_law_339 : decode cL_law 339 = .ok (.iconst 1, 1) := by decide +kernel
theorem dL_law_340 : decode cL_law 340 = .ok (.goto 4, 3) := by decide +kernel
theorem dL_law_343 : decode cL_law 343 = .ok (.iconst 0, 1) := by decide +kernel
theorem dL_law_344 : decode cL_law 344 = .ok (.aload 7, 2) := by decide +kernel
theorem dL_law_346 : decode cL_law 346 = .ok (.iload 9, 2) := by decide +kernel
theorem dL_law_348 : decode cL_law 348 = .ok (.aaload, 1) := by decide +kernel
theorem dL_law_349 : decode cL_law 349 = .ok (.iconst 5, 1) := by decide +kernel
theorem dL_law_350 : decode cL_law 350 = .ok (.iaload, 1) := by decide +kernel
theorem dL_law_351 : decode cL_law 351 = .ok (.ifCond .le 12, 3) := by decide +kernel
theorem dL_law_354 : decode cL_law 354 = .ok (.iload 10, 2) := by decide +kernel
theorem dL_law_356 : decode cL_law 356 = .ok (.ifCond .ne 7, 3) := by decide +kernel
theorem dL_law_359 : decode cL_law 359 = .ok (.iconst 1, 1) := by decide +kernel
theorem dL_law_360 : decode cL_law 360 = .ok (.goto 4, 3) := by decide +kernel
theorem dL_law_363 : decode cL_law 363 = .ok (.iconst 0, 1) := by decide +kernel
theorem dL_law_364 : decode cL_law 364 = .ok (.if_icmp .ne 22, 3) := by decide +kernel
theorem dL_law_367 : decode cL_law 367 = .ok (.iload 11, 2) := by decide +kernel
theorem dL_law_369 : decode cL_law 369 = .ok (.iconst 1, 1) := by decide +kernel
theorem dL_law_370 : decode cL_law 370 = .ok (.if_icmp .le 18, 3) := by decide +kernel
theorem dL_law_373 : decode cL_law 373 = .ok (.aload_n 1, 1) := by decide +kernel
theorem dL_law_374 : decode cL_law 374 = .ok (.iload 9, 2) := by decide +kernel
theorem dL_law_376 : decode cL_law 376 = .ok (.invokevirtual 109, 3) := by decide +kernel
theorem dL_law_379 : decode cL_law 379 = .ok (.iload 11, 2) := by decide +kernel
theorem dL_law_381 : decode cL_law 381 = .ok (.iconst 1, 1) := by decide +kernel
theorem dL_law_382 : decode cL_law 382 = .ok (.isub, 1) := by decide +kernel
theorem dL_law_383 : decode cL_law 383 = .ok (.if_icmp .eq 5, 3) := by decide +kernel
theorem dL_law_386 : decode cL_law 386 = .ok (.iconst 0, 1) := by decide +kernel
theorem dL_law_387 : decode cL_law 387 = .ok (.ireturn, 1) := by decide +kernel
theorem dL_law_388 : decode cL_law 388 = .ok (.aload_n 2, 1) := by decide +kernel
theorem dL_law_389 : decode cL_law 389 = .ok (.getfield 55, 3) := by decide +kernel
theorem dL_law_392 : decode cL_law 392 = .ok (.iload 5, 2) := by decide +kernel
theorem dL_law_394 : decode cL_law 394 = .ok (.bipush 10, 2) := by decide +kernel
theorem dL_law_396 : decode cL_law 396 = .ok (.irem, 1) := by decide +kernel
theorem dL_law_397 : decode cL_law 397 = .ok (.aaload, 1) := by decide +kernel
theorem dL_law_398 : decode cL_law 398 = .ok (.astore 15, 2) := by decide +kernel
theorem dL_law_400 : decode cL_law 400 = .ok (.iconst 0, 1) := by decide +kernel
theorem dL_law_401 : decode cL_law 401 = .ok (.istore 16, 2) := by decide +kernel
theorem dL_law_403 : decode cL_law 403 = .ok (.iload_n 3, 1) := by decide +kernel
theorem dL_law_404 : decode cL_law 404 = .ok (.newarray .int, 2) := by decide +kernel
theorem dL_law_406 : decode cL_law 406 = .ok (.astore 17, 2) := by decide +kernel
theorem dL_law_408 : decode cL_law 408 = .ok (.iload_n 3, 1) := by decide +kernel
theorem dL_law_409 : decode cL_law 409 = .ok (.newarray .int, 2) := by decide +kernel
theorem dL_law_411 : decode cL_law 411 = .ok (.astore 18, 2) := by decide +kernel
theorem dL_law_413 : decode cL_law 413 = .ok (.iconst 0, 1) := by decide +kernel
theorem dL_law_414 : decode cL_law 414 = .ok (.istore 19, 2) := by decide +kernel
theorem dL_law_416 : decode cL_law 416 = .ok (.iload 19, 2) := by decide +kernel
theorem dL_law_418 : decode cL_law 418 = .ok (.iload 4, 2) := by decide +kernel
theorem dL_law_420 : decode cL_law 420 = .ok (.if_icmp .ge 275, 3) := by decide +kernel
theorem dL_law_423 : decode cL_law 423 = .ok (.aload_n 1, 1) := by decide +kernel
theorem dL_law_424 : decode cL_law 424 = .ok (.iload 19, 2) := by decide +kernel
theorem dL_law_426 : decode cL_law 426 = .ok (.iconst 1, 1) := by decide +kernel
theorem dL_law_427 : decode cL_law 427 = .ok (.invokevirtual 103, 3) := by decide +kernel
theorem dL_law_430 : decode cL_law 430 = .ok (.istore 20, 2) := by decide +kernel
theorem dL_law_432 : decode cL_law 432 = .ok (.aload_n 1, 1) := by decide +kernel
theorem dL_law_433 : decode cL_law 433 = .ok (.iload 19, 2) := by decide +kernel
theorem dL_law_435 : decode cL_law 435 = .ok (.iconst 2, 1) := by decide +kernel
theorem dL_law_436 : decode cL_law 436 = .ok (.invokevirtual 103, 3) := by decide +kernel
theorem dL_law_439 : decode cL_law 439 = .ok (.istore 21, 2) := by decide +kernel
theorem dL_law_441 : decode cL_law 441 = .ok (.aload_n 1, 1) := by decide +kernel
theorem dL_law_442 : decode cL_law 442 = .ok (.iload 19, 2) := by decide +kernel
theorem dL_law_444 : decode cL_law 444 = .ok (.iconst 5, 1) := by decide +kernel
theorem dL_law_445 : decode cL_law 445 = .ok (.invokevirtual 103, 3) := by decide +kernel
theorem dL_law_448 : decode cL_law 448 = .ok (.aload 8, 2) := by decide +kernel
theorem dL_law_450 : decode cL_law 450 = .ok (.iload 19, 2) := by decide +kernel
theorem dL_law_452 : decode cL_law 452 = .ok (.aaload, 1) := by decide +kernel
theorem dL_law_453 : decode cL_law 453 = .ok (.iconst 5, 1) := by decide +kernel
theorem dL_law_454 : decode cL_law 454 = .ok (.iaload, 1) := by decide +kernel
theorem dL_law_455 : decode cL_law 455 = .ok (.isub, 1) := by decide +kernel
theorem dL_law_456 : decode cL_law 456 = .ok (.istore 22, 2) := by decide +kernel
theorem dL_law_458 : decode cL_law 458 = .ok (.iload 16, 2) := by decide +kernel
theorem dL_law_460 : decode cL_law 460 = .ok (.iload 22, 2) := by decide +kernel
theorem dL_law_462 : decode cL_law 462 = .ok (.iadd, 1) := by decide +kernel
theorem dL_law_463 : decode cL_law 463 = .ok (.istore 16, 2) := by decide +kernel
theorem dL_law_465 : decode cL_law 465 = .ok (.iload 22, 2) := by decide +kernel
theorem dL_law_467 : decode cL_law 467 = .ok (.ifCond .lt 56, 3) := by decide +kernel
theorem dL_law_470 : decode cL_law 470 = .ok (.iload 22, 2) := by decide +kernel
theorem dL_law_472 : decode cL_law 472 = .ok (.iconst 2, 1) := by decide +kernel
theorem dL_law_473 : decode cL_law 473 = .ok (.aload 8, 2) := by decide +kernel
theorem dL_law_475 : decode cL_law 475 = .ok (.iload 19, 2) := by decide +kernel
theorem dL_law_477 : decode cL_law 477 = .ok (.aaload, 1) := by decide +kernel
theorem dL_law_478 : decode cL_law 478 = .ok (.iconst 0, 1) := by decide +kernel
theorem dL_law_479 : decode cL_law 479 = .ok (.iaload, 1) := by decide +kernel
theorem dL_law_480 : decode cL_law 480 = .ok (.imul, 1) := by decide +kernel
theorem dL_law_481 : decode cL_law 481 = .ok (.if_icmp .gt 42, 3) := by decide +kernel
theorem dL_law_484 : decode cL_law 484 = .ok (.aload_n 1, 1) := by decide +kernel
theorem dL_law_485 : decode cL_law 485 = .ok (.iload 19, 2) := by decide +kernel
theorem dL_law_487 : decode cL_law 487 = .ok (.iconst 0, 1) := by decide +kernel
theorem dL_law_488 : decode cL_law 488 = .ok (.invokevirtual 103, 3) := by decide +kernel
theorem dL_law_491 : decode cL_law 491 = .ok (.aload 8, 2) := by decide +kernel
theorem dL_law_493 : decode cL_law 493 = .ok (.iload 19, 2) := by decide +kernel
theorem dL_law_495 : decode cL_law 495 = .ok (.aaload, 1) := by decide +kernel
theorem dL_law_496 : decode cL_law 496 = .ok (.iconst 0, 1) := by decide +kernel
theorem dL_law_497 : decode cL_law 497 = .ok (.iaload, 1) := by decide +kernel
theorem dL_law_498 : decode cL_law 498 = .ok (.if_icmp .ne 25, 3) := by decide +kernel
theorem dL_law_501 : decode cL_law 501 = .ok (.aload_n 1, 1) := by decide +kernel
theorem dL_law_502 : decode cL_law 502 = .ok (.iload 19, 2) := by decide +kernel
theorem dL_law_504 : decode cL_law 504 = .ok (.iconst 4, 1) := by decide +kernel
theorem dL_law_505 : decode cL_law 505 = .ok (.invokevirtual 103, 3) := by decide +kernel
theorem dL_law_508 : decode cL_law 508 = .ok (.iload 21, 2) := by decide +kernel
theorem dL_law_510 : decode cL_law 510 = .ok (.bipush 10, 2) := by decide +kernel
theorem dL_law_512 : decode cL_law 512 = .ok (.if_icmp .ne 7, 3) := by decide +kernel
theorem dL_law_515 : decode cL_law 515 = .ok (.iconst 1, 1) := by decide +kernel
theorem dL_law_516 : decode cL_law 516 = .ok (.goto 4, 3) := by decide +kernel
theorem dL_law_519 : decode cL_law 519 = .ok (.iconst 0, 1) := by decide +kernel
theorem dL_law_520 : decode cL_law 520 = .ok (.if_icmp .eq 5, 3) := by decide +kernel
theorem dL_law_523 : decode cL_law 523 = .ok (.iconst 0, 1) := by decide +kernel
theorem dL_law_524 : decode cL_law 524 = .ok (.ireturn, 1) := by decide +kernel
theorem dL_law_525 : decode cL_law 525 = .ok (.aload 8, 2) := by decide +kernel
theorem dL_law_527 : decode cL_law 527 = .ok (.iload 19, 2) := by decide +kernel
theorem dL_law_529 : decode cL_law 529 = .ok (.aaload, 1) := by decide +kernel
theorem dL_law_530 : decode cL_law 530 = .ok (.iconst 4, 1) := by decide +kernel
theorem dL_law_531 : decode cL_law 531 = .ok (.iaload, 1) := by decide +kernel
theorem dL_law_532 : decode cL_law 532 = .ok (.iconst 1, 1) := by decide +kernel
theorem dL_law_533 : decode cL_law 533 = .ok (.if_icmp .ne 29, 3) := by decide +kernel
theorem dL_law_536 : decode cL_law 536 = .ok (.iload 22, 2) := by decide +kernel
theorem dL_law_538 : decode cL_law 538 = .ok (.ifCond .ne 22, 3) := by decide +kernel
theorem dL_law_541 : decode cL_law 541 = .ok (.iload 21, 2) := by decide +kernel
theorem dL_law_543 : decode cL_law 543 = .ok (.bipush 10, 2) := by decide +kernel
theorem dL_law_545 : decode cL_law 545 = .ok (.if_icmp .ne 15, 3) := by decide +kernel
theorem dL_law_548 : decode cL_law 548 = .ok (.iload 20, 2) := by decide +kernel
theorem dL_law_550 : decode cL_law 550 = .ok (.aload 8, 2) := by decide +kernel
theorem dL_law_552 : decode cL_law 552 = .ok (.iload 19, 2) := by decide +kernel
theorem dL_law_554 : decode cL_law 554 = .ok (.aaload, 1) := by decide +kernel
theorem dL_law_555 : decode cL_law 555 = .ok (.iconst 1, 1) := by decide +kernel
theorem dL_law_556 : decode cL_law 556 = .ok (.iaload, 1) := by decide +kernel
theorem dL_law_557 : decode cL_law 557 = .ok (.if_icmp .eq 132, 3) := by decide +kernel
theorem dL_law_560 : decode cL_law 560 = .ok (.iconst 0, 1) := by decide +kernel
theorem dL_law_561 : decode cL_law 561 = .ok (.ireturn, 1) := by decide +kernel
theorem dL_law_562 : decode cL_law 562 = .ok (.iload 21, 2) := by decide +kernel
theorem dL_law_564 : decode cL_law 564 = .ok (.iload 22, 2) := by decide +kernel
theorem dL_law_566 : decode cL_law 566 = .ok (.iconst 2, 1) := by decide +kernel
theorem dL_law_567 : decode cL_law 567 = .ok (.aload 8, 2) := by decide +kernel
theorem dL_law_569 : decode cL_law 569 = .ok (.iload 19, 2) := by decide +kernel
theorem dL_law_571 : decode cL_law 571 = .ok (.aaload, 1) := by decide +kernel
theorem dL_law_572 : decode cL_law 572 = .ok (.iconst 0, 1) := by decide +kernel
theorem dL_law_573 : decode cL_law 573 = .ok (.iaload, 1) := by decide +kernel
theorem dL_law_574 : decode cL_law 574 = .ok (.imul, 1) := by decide +kernel
theorem dL_law_575 : decode cL_law 575 = .ok (.if_icmp .ne 19, 3) := by decide +kernel
theorem dL_law_578 : decode cL_law 578 = .ok (.iconst 0, 1) := by decide +kernel
theorem dL_law_579 : decode cL_law 579 = .ok (.aload 8, 2) := by decide +kernel
theorem dL_law_581 : decode cL_law 581 = .ok (.iload 19, 2) := by decide +kernel
theorem dL_law_583 : decode cL_law 583 = .ok (.aaload, 1) := by decide +kernel
theorem dL_law_584 : decode cL_law 584 = .ok (.iconst 2, 1) := by decide +kernel
theorem dL_law_585 : decode cL_law 585 = .ok (.iaload, 1) := by decide +kernel
theorem dL_law_586 : decode cL_law 586 = .ok (.iconst 2, 1) := by decide +kernel
theorem dL_law_587 : decode cL_law 587 = .ok (.isub, 1) := by decide +kernel
theorem dL_law_588 : decode cL_law 588 = .ok (.invokestatic 78, 3) := by decide +kernel
theorem dL_law_591 : decode cL_law 591 = .ok (.goto 17, 3) := by decide +kernel
theorem dL_law_594 : decode cL_law 594 = .ok (.bipush 10, 2) := by decide +kernel
theorem dL_law_596 : decode cL_law 596 = .ok (.aload 8, 2) := by decide +kernel
theorem dL_law_598 : decode cL_law 598 = .ok (.iload 19, 2) := by decide +kernel
theorem dL_law_600 : decode cL_law 600 = .ok (.aaload, 1) := by decide +kernel
theorem dL_law_601 : decode cL_law 601 = .ok (.iconst 2, 1) := by decide +kernel
theorem dL_law_602 : decode cL_law 602 = .ok (.iaload, 1) := by decide +kernel
theorem dL_law_603 : decode cL_law 603 = .ok (.iconst 3, 1) := by decide +kernel
theorem dL_law_604 : decode cL_law 604 = .ok (.iadd, 1) := by decide +kernel
theorem dL_law_605 : decode cL_law 605 = .ok (.invokestatic 43, 3) := by decide +kernel
theorem dL_law_608 : decode cL_law 608 = .ok (.if_icmp .eq 5, 3) := by decide +kernel
theorem dL_law_611 : decode cL_law 611 = .ok (.iconst 0, 1) := by decide +kernel
theorem dL_law_612 : decode cL_law 612 = .ok (.ireturn, 1) := by decide +kernel
theorem dL_law_613 : decode cL_law 613 = .ok (.iload 20, 2) := by decide +kernel
theorem dL_law_615 : decode cL_law 615 = .ok (.aload 8, 2) := by decide +kernel
theorem dL_law_617 : decode cL_law 617 = .ok (.iload 19, 2) := by decide +kernel
theorem dL_law_619 : decode cL_law 619 = .ok (.aaload, 1) := by decide +kernel
theorem dL_law_620 : decode cL_law 620 = .ok (.iconst 1, 1) := by decide +kernel
theorem dL_law_621 : decode cL_law 621 = .ok (.iaload, 1) := by decide +kernel
theorem dL_law_622 : decode cL_law 622 = .ok (.if_icmp .eq 39, 3) := by decide +kernel
theorem dL_law_625 : decode cL_law 625 = .ok (.aload 8, 2) := by decide +kernel
theorem dL_law_627 : decode cL_law 627 = .ok (.iload 19, 2) := by decide +kernel
theorem dL_law_629 : decode cL_law 629 = .ok (.aaload, 1) := by decide +kernel
theorem dL_law_630 : decode cL_law 630 = .ok (.iconst 3, 1) := by decide +kernel
theorem dL_law_631 : decode cL_law 631 = .ok (.iaload, 1) := by decide +kernel
theorem dL_law_632 : decode cL_law 632 = .ok (.ifCond .eq 27, 3) := by decide +kernel
theorem dL_law_635 : decode cL_law 635 = .ok (.aload 8, 2) := by decide +kernel
theorem dL_law_637 : decode cL_law 637 = .ok (.iload 19, 2) := by decide +kernel
theorem dL_law_639 : decode cL_law 639 = .ok (.aaload, 1) := by decide +kernel
theorem dL_law_640 : decode cL_law 640 = .ok (.iconst 2, 1) := by decide +kernel
theorem dL_law_641 : decode cL_law 641 = .ok (.iaload, 1) := by decide +kernel
theorem dL_law_642 : decode cL_law 642 = .ok (.ifCond .eq 17, 3) := by decide +kernel
theorem dL_law_645 : decode cL_law 645 = .ok (.iload 22, 2) := by decide +kernel
theorem dL_law_647 : decode cL_law 647 = .ok (.iconst 2, 1) := by decide +kernel
theorem dL_law_648 : decode cL_law 648 = .ok (.aload 8, 2) := by decide +kernel
theorem dL_law_650 : decode cL_law 650 = .ok (.iload 19, 2) := by decide +kernel
theorem dL_law_652 : decode cL_law 652 = .ok (.aaload, 1) := by decide +kernel
theorem dL_law_653 : decode cL_law 653 = .ok (.iconst 0, 1) := by decide +kernel
theorem dL_law_654 : decode cL_law 654 = .ok (.iaload, 1) := by decide +kernel
theorem dL_law_655 : decode cL_law 655 = .ok (.imul, 1) := by decide +kernel
theorem dL_law_656 : decode cL_law 656 = .ok (.if_icmp .eq 5, 3) := by decide +kernel
theorem dL_law_659 : decode cL_law 659 = .ok (.iconst 0, 1) := by decide +kernel
theorem dL_law_660 : decode cL_law 660 = .ok (.ireturn, 1) := by decide +kernel
theorem dL_law_661 : decode cL_law 661 = .ok (.aload 17, 2) := by decide +kernel
theorem dL_law_663 : decode cL_law 663 = .ok (.iload 20, 2) := by decide +kernel
theorem dL_law_665 : decode cL_law 665 = .ok (.dup2, 1) := by decide +kernel
theorem dL_law_666 : decode cL_law 666 = .ok (.iaload, 1) := by decide +kernel
theorem dL_law_667 : decode cL_law 667 = .ok (.aload 8, 2) := by decide +kernel
theorem dL_law_669 : decode cL_law 669 = .ok (.iload 19, 2) := by decide +kernel
theorem dL_law_671 : decode cL_law 671 = .ok (.aaload, 1) := by decide +kernel
theorem dL_law_672 : decode cL_law 672 = .ok (.iconst 0, 1) := by decide +kernel
theorem dL_law_673 : decode cL_law 673 = .ok (.iaload, 1) := by decide +kernel
theorem dL_law_674 : decode cL_law 674 = .ok (.bipush 10, 2) := by decide +kernel
theorem dL_law_676 : decode cL_law 676 = .ok (.idiv, 1) := by decide +kernel
theorem dL_law_677 : decode cL_law 677 = .ok (.iadd, 1) := by decide +kernel
theorem dL_law_678 : decode cL_law 678 = .ok (.iastore, 1) := by decide +kernel
theorem dL_law_679 : decode cL_law 679 = .ok (.aload 18, 2) := by decide +kernel
theorem dL_law_681 : decode cL_law 681 = .ok (.iload 20, 2) := by decide +kernel
theorem dL_law_683 : decode cL_law 683 = .ok (.dup2, 1) := by decide +kernel
theorem dL_law_684 : decode cL_law 684 = .ok (.iaload, 1) := by decide +kernel
theorem dL_law_685 : decode cL_law 685 = .ok (.iload 22, 2) := by decide +kernel
theorem dL_law_687 : decode cL_law 687 = .ok (.iadd, 1) := by decide +kernel
theorem dL_law_688 : decode cL_law 688 = .ok (.iastore, 1) := by decide +kernel
theorem dL_law_689 : decode cL_law 689 = .ok (.iinc 19 1, 3) := by decide +kernel
theorem dL_law_692 : decode cL_law 692 = .ok (.goto (-276), 3) := by decide +kernel
theorem dL_law_695 : decode cL_law 695 = .ok (.iload 16, 2) := by decide +kernel
theorem dL_law_697 : decode cL_law 697 = .ok (.iload 14, 2) := by decide +kernel
theorem dL_law_699 : decode cL_law 699 = .ok (.if_icmp .eq 5, 3) := by decide +kernel
theorem dL_law_702 : decode cL_law 702 = .ok (.iconst 0, 1) := by decide +kernel
theorem dL_law_703 : decode cL_law 703 = .ok (.ireturn, 1) := by decide +kernel
theorem dL_law_704 : decode cL_law 704 = .ok (.iconst 0, 1) := by decide +kernel
theorem dL_law_705 : decode cL_law 705 = .ok (.istore 19, 2) := by decide +kernel
theorem dL_law_707 : decode cL_law 707 = .ok (.iconst 0, 1) := by decide +kernel
theorem dL_law_708 : decode cL_law 708 = .ok (.istore 20, 2) := by decide +kernel
theorem dL_law_710 : decode cL_law 710 = .ok (.iconst 0, 1) := by decide +kernel
theorem dL_law_711 : decode cL_law 711 = .ok (.istore 21, 2) := by decide +kernel
theorem dL_law_713 : decode cL_law 713 = .ok (.iconst 0, 1) := by decide +kernel
theorem dL_law_714 : decode cL_law 714 = .ok (.istore 22, 2) := by decide +kernel
theorem dL_law_716 : decode cL_law 716 = .ok (.iconst 0, 1) := by decide +kernel
theorem dL_law_717 : decode cL_law 717 = .ok (.istore 23, 2) := by decide +kernel
theorem dL_law_719 : decode cL_law 719 = .ok (.iload 23, 2) := by decide +kernel
theorem dL_law_721 : decode cL_law 721 = .ok (.iload_n 3, 1) := by decide +kernel
theorem dL_law_722 : decode cL_law 722 = .ok (.if_icmp .ge 308, 3) := by decide +kernel
theorem dL_law_725 : decode cL_law 725 = .ok (.aload_n 1, 1) := by decide +kernel
theorem dL_law_726 : decode cL_law 726 = .ok (.iload 23, 2) := by decide +kernel
theorem dL_law_728 : decode cL_law 728 = .ok (.iconst 5, 1) := by decide +kernel
theorem dL_law_729 : decode cL_law 729 = .ok (.invokevirtual 100, 3) := by decide +kernel
theorem dL_law_732 : decode cL_law 732 = .ok (.istore 24, 2) := by decide +kernel
theorem dL_law_734 : decode cL_law 734 = .ok (.iload 19, 2) := by decide +kernel
theorem dL_law_736 : decode cL_law 736 = .ok (.iload 24, 2) := by decide +kernel
theorem dL_law_738 : decode cL_law 738 = .ok (.iadd, 1) := by decide +kernel
theorem dL_law_739 : decode cL_law 739 = .ok (.istore 19, 2) := by decide +kernel
theorem dL_law_741 : decode cL_law 741 = .ok (.iload 22, 2) := by decide +kernel
theorem dL_law_743 : decode cL_law 743 = .ok (.aload 7, 2) := by decide +kernel
theorem dL_law_745 : decode cL_law 745 = .ok (.iload 23, 2) := by decide +kernel
theorem dL_law_747 : decode cL_law 747 = .ok (.aaload, 1) := by decide +kernel
theorem dL_law_748 : decode cL_law 748 = .ok (.iconst 5, 1) := by decide +kernel
theorem dL_law_749 : decode cL_law 749 = .ok (.iaload, 1) := by decide +kernel
theorem dL_law_750 : decode cL_law 750 = .ok (.iadd, 1) := by decide +kernel
theorem dL_law_751 : decode cL_law 751 = .ok (.istore 22, 2) := by decide +kernel
theorem dL_law_753 : decode cL_law 753 = .ok (.aload 15, 2) := by decide +kernel
theorem dL_law_755 : decode cL_law 755 = .ok (.iconst 0, 1) := by decide +kernel
theorem dL_law_756 : decode cL_law 756 = .ok (.iaload, 1) := by decide +kernel
theorem dL_law_757 : decode cL_law 757 = .ok (.aload 7, 2) := by decide +kernel
theorem dL_law_759 : decode cL_law 759 = .ok (.iload 23, 2) := by decide +kernel
theorem dL_law_761 : decode cL_law 761 = .ok (.aaload, 1) := by decide +kernel
theorem dL_law_762 : decode cL_law 762 = .ok (.iconst 3, 1) := by decide +kernel
theorem dL_law_763 : decode cL_law 763 = .ok (.iaload, 1) := by decide +kernel
theorem dL_law_764 : decode cL_law 764 = .ok (.imul, 1) := by decide +kernel
theorem dL_law_765 : decode cL_law 765 = .ok (.iconst 4, 1) := by decide +kernel
theorem dL_law_766 : decode cL_law 766 = .ok (.idiv, 1) := by decide +kernel
theorem dL_law_767 : decode cL_law 767 = .ok (.istore 25, 2) := by decide +kernel
theorem dL_law_769 : decode cL_law 769 = .ok (.iload 21, 2) := by decide +kernel
theorem dL_law_771 : decode cL_law 771 = .ok (.aload 7, 2) := by decide +kernel
theorem dL_law_773 : decode cL_law 773 = .ok (.iload 23, 2) := by decide +kernel
theorem dL_law_775 : decode cL_law 775 = .ok (.aaload, 1) := by decide +kernel
theorem dL_law_776 : decode cL_law 776 = .ok (.iconst 2, 1) := by decide +kernel
theorem dL_law_777 : decode cL_law 777 = .ok (.iaload, 1) := by decide +kernel
theorem dL_law_778 : decode cL_law 778 = .ok (.sipush 150, 3) := by decide +kernel
theorem dL_law_781 : decode cL_law 781 = .ok (.if_icmp .ge 8, 3) := by decide +kernel
theorem dL_law_784 : decode cL_law 784 = .ok (.iload 25, 2) := by decide +kernel
theorem dL_law_786 : decode cL_law 786 = .ok (.goto 7, 3) := by decide +kernel
theorem dL_law_789 : decode cL_law 789 = .ok (.iconst 2, 1) := by decide +kernel
theorem dL_law_790 : decode cL_law 790 = .ok (.iload 25, 2) := by decide +kernel
theorem dL_law_792 : decode cL_law 792 = .ok (.imul, 1) := by decide +kernel
theorem dL_law_793 : decode cL_law 793 = .ok (.aload 15, 2) := by decide +kernel
theorem dL_law_795 : decode cL_law 795 = .ok (.iconst 1, 1) := by decide +kernel
theorem dL_law_796 : decode cL_law 796 = .ok (.iaload, 1) := by decide +kernel
theorem dL_law_797 : decode cL_law 797 = .ok (.aload 7, 2) := by decide +kernel
theorem dL_law_799 : decode cL_law 799 = .ok (.iload 23, 2) := by decide +kernel
theorem dL_law_801 : decode cL_law 801 = .ok (.aaload, 1) := by decide +kernel
theorem dL_law_802 : decode cL_law 802 = .ok (.iconst 3, 1) := by decide +kernel
theorem dL_law_803 : decode cL_law 803 = .ok (.iaload, 1) := by decide +kernel
theorem dL_law_804 : decode cL_law 804 = .ok (.imul, 1) := by decide +kernel
theorem dL_law_805 : decode cL_law 805 = .ok (.iconst 2, 1) := by decide +kernel
theorem dL_law_806 : decode cL_law 806 = .ok (.idiv, 1) := by decide +kernel
theorem dL_law_807 : decode cL_law 807 = .ok (.iadd, 1) := by decide +kernel
theorem dL_law_808 : decode cL_law 808 = .ok (.iadd, 1) := by decide +kernel
theorem dL_law_809 : decode cL_law 809 = .ok (.istore 21, 2) := by decide +kernel
theorem dL_law_811 : decode cL_law 811 = .ok (.iload 20, 2) := by decide +kernel
theorem dL_law_813 : decode cL_law 813 = .ok (.iload 24, 2) := by decide +kernel
theorem dL_law_815 : decode cL_law 815 = .ok (.ifCond .ne 7, 3) := by decide +kernel
theorem dL_law_818 : decode cL_law 818 = .ok (.iconst 1, 1) := by decide +kernel
theorem dL_law_819 : decode cL_law 819 = .ok (.goto 4, 3) := by decide +kernel
theorem dL_law_822 : decode cL_law 822 = .ok (.iconst 0, 1) := by decide +kernel
theorem dL_law_823 : decode cL_law 823 = .ok (.iadd, 1) := by decide +kernel
theorem dL_law_824 : decode cL_law 824 = .ok (.istore 20, 2) := by decide +kernel
theorem dL_law_826 : decode cL_law 826 = .ok (.iload 24, 2) := by decide +kernel
theorem dL_law_828 : decode cL_law 828 = .ok (.ifCond .lt 72, 3) := by decide +kernel
theorem dL_law_831 : decode cL_law 831 = .ok (.iload 24, 2) := by decide +kernel
theorem dL_law_833 : decode cL_law 833 = .ok (.aload 7, 2) := by decide +kernel
theorem dL_law_835 : decode cL_law 835 = .ok (.iload 23, 2) := by decide +kernel
theorem dL_law_837 : decode cL_law 837 = .ok (.aaload, 1) := by decide +kernel
theorem dL_law_838 : decode cL_law 838 = .ok (.iconst 4, 1) := by decide +kernel
theorem dL_law_839 : decode cL_law 839 = .ok (.iaload, 1) := by decide +kernel
theorem dL_law_840 : decode cL_law 840 = .ok (.if_icmp .gt 60, 3) := by decide +kernel
theorem dL_law_843 : decode cL_law 843 = .ok (.aload_n 1, 1) := by decide +kernel
theorem dL_law_844 : decode cL_law 844 = .ok (.iload 23, 2) := by decide +kernel
theorem dL_law_846 : decode cL_law 846 = .ok (.bipush 10, 2) := by decide +kernel
theorem dL_law_848 : decode cL_law 848 = .ok (.invokevirtual 100, 3) := by decide +kernel
theorem dL_law_851 : decode cL_law 851 = .ok (.aload 7, 2) := by decide +kernel
theorem dL_law_853 : decode cL_law 853 = .ok (.iload 23, 2) := by decide +kernel
theorem dL_law_855 : decode cL_law 855 = .ok (.aaload, 1) := by decide +kernel
theorem dL_law_856 : decode cL_law 856 = .ok (.bipush 10, 2) := by decide +kernel
theorem dL_law_858 : decode cL_law 858 = .ok (.iaload, 1) := by decide +kernel
theorem dL_law_859 : decode cL_law 859 = .ok (.if_icmp .lt 41, 3) := by decide +kernel
theorem dL_law_862 : decode cL_law 862 = .ok (.aload_n 1, 1) := by decide +kernel
theorem dL_law_863 : decode cL_law 863 = .ok (.iload 23, 2) := by decide +kernel
theorem dL_law_865 : decode cL_law 865 = .ok (.bipush 8, 2) := by decide +kernel
theorem dL_law_867 : decode cL_law 867 = .ok (.invokevirtual 100, 3) := by decide +kernel
theorem dL_law_870 : decode cL_law 870 = .ok (.aload 7, 2) := by decide +kernel
theorem dL_law_872 : decode cL_law 872 = .ok (.iload 23, 2) := by decide +kernel
theorem dL_law_874 : decode cL_law 874 = .ok (.aaload, 1) := by decide +kernel
theorem dL_law_875 : decode cL_law 875 = .ok (.bipush 8, 2) := by decide +kernel
theorem dL_law_877 : decode cL_law 877 = .ok (.iaload, 1) := by decide +kernel
theorem dL_law_878 : decode cL_law 878 = .ok (.if_icmp .ne 22, 3) := by decide +kernel
theorem dL_law_881 : decode cL_law 881 = .ok (.aload_n 1, 1) := by decide +kernel
theorem dL_law_882 : decode cL_law 882 = .ok (.iload 23, 2) := by decide +kernel
theorem dL_law_884 : decode cL_law 884 = .ok (.bipush 11, 2) := by decide +kernel
theorem dL_law_886 : decode cL_law 886 = .ok (.invokevirtual 100, 3) := by decide +kernel
theorem dL_law_889 : decode cL_law 889 = .ok (.aload 7, 2) := by decide +kernel
theorem dL_law_891 : decode cL_law 891 = .ok (.iload 23, 2) := by decide +kernel
theorem dL_law_893 : decode cL_law 893 = .ok (.aaload, 1) := by decide +kernel
theorem dL_law_894 : decode cL_law 894 = .ok (.bipush 11, 2) := by decide +kernel
theorem dL_law_896 : decode cL_law 896 = .ok (.iaload, 1) := by decide +kernel
theorem dL_law_897 : decode cL_law 897 = .ok (.if_icmp .eq 5, 3) := by decide +kernel
theorem dL_law_900 : decode cL_law 900 = .ok (.iconst 0, 1) := by decide +kernel
theorem dL_law_901 : decode cL_law 901 = .ok (.ireturn, 1) := by decide +kernel
theorem dL_law_902 : decode cL_law 902 = .ok (.aload_n 1, 1) := by decide +kernel
theorem dL_law_903 : decode cL_law 903 = .ok (.iload 23, 2) := by decide +kernel
theorem dL_law_905 : decode cL_law 905 = .ok (.bipush 6, 2) := by decide +kernel
theorem dL_law_907 : decode cL_law 907 = .ok (.invokevirtual 100, 3) := by decide +kernel
theorem dL_law_910 : decode cL_law 910 = .ok (.aload 7, 2) := by decide +kernel
theorem dL_law_912 : decode cL_law 912 = .ok (.iload 23, 2) := by decide +kernel
theorem dL_law_914 : decode cL_law 914 = .ok (.aaload, 1) := by decide +kernel
theorem dL_law_915 : decode cL_law 915 = .ok (.bipush 7, 2) := by decide +kernel
theorem dL_law_917 : decode cL_law 917 = .ok (.iaload, 1) := by decide +kernel
theorem dL_law_918 : decode cL_law 918 = .ok (.iconst 1, 1) := by decide +kernel
theorem dL_law_919 : decode cL_law 919 = .ok (.if_icmp .ne 14, 3) := by decide +kernel
theorem dL_law_922 : decode cL_law 922 = .ok (.aload 7, 2) := by decide +kernel
theorem dL_law_924 : decode cL_law 924 = .ok (.iload 23, 2) := by decide +kernel
theorem dL_law_926 : decode cL_law 926 = .ok (.aaload, 1) := by decide +kernel
theorem dL_law_927 : decode cL_law 927 = .ok (.bipush 6, 2) := by decide +kernel
theorem dL_law_929 : decode cL_law 929 = .ok (.iaload, 1) := by decide +kernel
theorem dL_law_930 : decode cL_law 930 = .ok (.goto 21, 3) := by decide +kernel
theorem dL_law_933 : decode cL_law 933 = .ok (.iconst 0, 1) := by decide +kernel
theorem dL_law_934 : decode cL_law 934 = .ok (.aload 7, 2) := by decide +kernel
theorem dL_law_936 : decode cL_law 936 = .ok (.iload 23, 2) := by decide +kernel
theorem dL_law_938 : decode cL_law 938 = .ok (.aaload, 1) := by decide +kernel
theorem dL_law_939 : decode cL_law 939 = .ok (.bipush 6, 2) := by decide +kernel
theorem dL_law_941 : decode cL_law 941 = .ok (.iaload, 1) := by decide +kernel
theorem dL_law_942 : decode cL_law 942 = .ok (.aload 17, 2) := by decide +kernel
theorem dL_law_944 : decode cL_law 944 = .ok (.iload 23, 2) := by decide +kernel
theorem dL_law_946 : decode cL_law 946 = .ok (.iaload, 1) := by decide +kernel
theorem dL_law_947 : decode cL_law 947 = .ok (.isub, 1) := by decide +kernel
theorem dL_law_948 : decode cL_law 948 = .ok (.invokestatic 78, 3) := by decide +kernel
theorem dL_law_951 : decode cL_law 951 = .ok (.if_icmp .eq 5, 3) := by decide +kernel
theorem dL_law_954 : decode cL_law 954 = .ok (.iconst 0, 1) := by decide +kernel
theorem dL_law_955 : decode cL_law 955 = .ok (.ireturn, 1) := by decide +kernel
theorem dL_law_956 : decode cL_law 956 = .ok (.aload_n 1, 1) := by decide +kernel
theorem dL_law_957 : decode cL_law 957 = .ok (.iload 23, 2) := by decide +kernel
theorem dL_law_959 : decode cL_law 959 = .ok (.bipush 7, 2) := by decide +kernel
theorem dL_law_961 : decode cL_law 961 = .ok (.invokevirtual 100, 3) := by decide +kernel
theorem dL_law_964 : decode cL_law 964 = .ok (.iload 5, 2) := by decide +kernel
theorem dL_law_966 : decode cL_law 966 = .ok (.bipush 10, 2) := by decide +kernel
theorem dL_law_968 : decode cL_law 968 = .ok (.irem, 1) := by decide +kernel
theorem dL_law_969 : decode cL_law 969 = .ok (.bipush 9, 2) := by decide +kernel
theorem dL_law_971 : decode cL_law 971 = .ok (.if_icmp .ne 7, 3) := by decide +kernel
theorem dL_law_974 : decode cL_law 974 = .ok (.iconst 0, 1) := by decide +kernel
theorem dL_law_975 : decode cL_law 975 = .ok (.goto 11, 3) := by decide +kernel
theorem dL_law_978 : decode cL_law 978 = .ok (.aload 7, 2) := by decide +kernel
theorem dL_law_980 : decode cL_law 980 = .ok (.iload 23, 2) := by decide +kernel
theorem dL_law_982 : decode cL_law 982 = .ok (.aaload, 1) := by decide +kernel
theorem dL_law_983 : decode cL_law 983 = .ok (.bipush 7, 2) := by decide +kernel
theorem dL_law_985 : decode cL_law 985 = .ok (.iaload, 1) := by decide +kernel
theorem dL_law_986 : decode cL_law 986 = .ok (.if_icmp .eq 5, 3) := by decide +kernel
theorem dL_law_989 : decode cL_law 989 = .ok (.iconst 0, 1) := by decide +kernel
theorem dL_law_990 : decode cL_law 990 = .ok (.ireturn, 1) := by decide +kernel
theorem dL_law_991 : decode cL_law 991 = .ok (.aload_n 1, 1) := by decide +kernel
theorem dL_law_992 : decode cL_law 992 = .ok (.iload 23, 2) := by decide +kernel
theorem dL_law_994 : decode cL_law 994 = .ok (.bipush 10, 2) := by decide +kernel
theorem dL_law_996 : decode cL_law 996 = .ok (.invokevirtual 100, 3) := by decide +kernel
theorem dL_law_999 : decode cL_law 999 = .ok (.aload 7, 2) := by decide +kernel
theorem dL_law_1001 : decode cL_law 1001 = .ok (.iload 23, 2) := by decide +kernel
theorem dL_law_1003 : decode cL_law 1003 = .ok (.aaload, 1) := by decide +kernel
theorem dL_law_1004 : decode cL_law 1004 = .ok (.bipush 10, 2) := by decide +kernel
theorem dL_law_1006 : decode cL_law 1006 = .ok (.iaload, 1) := by decide +kernel
theorem dL_law_1007 : decode cL_law 1007 = .ok (.if_icmp .le 17, 3) := by decide +kernel
theorem dL_law_1010 : decode cL_law 1010 = .ok (.iload 24, 2) := by decide +kernel
theorem dL_law_1012 : decode cL_law 1012 = .ok (.aload 7, 2) := by decide +kernel
theorem dL_law_1014 : decode cL_law 1014 = .ok (.iload 23, 2) := by decide +kernel
theorem dL_law_1016 : decode cL_law 1016 = .ok (.aaload, 1) := by decide +kernel
theorem dL_law_1017 : decode cL_law 1017 = .ok (.iconst 4, 1) := by decide +kernel
theorem dL_law_1018 : decode cL_law 1018 = .ok (.iaload, 1) := by decide +kernel
theorem dL_law_1019 : decode cL_law 1019 = .ok (.if_icmp .eq 5, 3) := by decide +kernel
theorem dL_law_1022 : decode cL_law 1022 = .ok (.iconst 0, 1) := by decide +kernel
theorem dL_law_1023 : decode cL_law 1023 = .ok (.ireturn, 1) := by decide +kernel
theorem dL_law_1024 : decode cL_law 1024 = .ok (.iinc 23 1, 3) := by decide +kernel
theorem dL_law_1027 : decode cL_law 1027 = .ok (.goto (-308), 3) := by decide +kernel
theorem dL_law_1030 : decode cL_law 1030 = .ok (.iload 19, 2) := by decide +kernel
theorem dL_law_1032 : decode cL_law 1032 = .ok (.iload 22, 2) := by decide +kernel
theorem dL_law_1034 : decode cL_law 1034 = .ok (.iload 21, 2) := by decide +kernel
theorem dL_law_1036 : decode cL_law 1036 = .ok (.iadd, 1) := by decide +kernel
theorem dL_law_1037 : decode cL_law 1037 = .ok (.iload 14, 2) := by decide +kernel
theorem dL_law_1039 : decode cL_law 1039 = .ok (.isub, 1) := by decide +kernel
theorem dL_law_1040 : decode cL_law 1040 = .ok (.if_icmp .gt 24, 3) := by decide +kernel
theorem dL_law_1043 : decode cL_law 1043 = .ok (.aload_n 1, 1) := by decide +kernel
theorem dL_law_1044 : decode cL_law 1044 = .ok (.iconst 5, 1) := by decide +kernel
theorem dL_law_1045 : decode cL_law 1045 = .ok (.invokevirtual 115, 3) := by decide +kernel
theorem dL_law_1048 : decode cL_law 1048 = .ok (.iload 19, 2) := by decide +kernel
theorem dL_law_1050 : decode cL_law 1050 = .ok (.if_icmp .ne 14, 3) := by decide +kernel
theorem dL_law_1053 : decode cL_law 1053 = .ok (.aload_n 1, 1) := by decide +kernel
theorem dL_law_1054 : decode cL_law 1054 = .ok (.bipush 6, 2) := by decide +kernel
theorem dL_law_1056 : decode cL_law 1056 = .ok (.invokevirtual 115, 3) := by decide +kernel
theorem dL_law_1059 : decode cL_law 1059 = .ok (.iload 20, 2) := by decide +kernel
theorem dL_law_1061 : decode cL_law 1061 = .ok (.if_icmp .eq 5, 3) := by decide +kernel
theorem dL_law_1064 : decode cL_law 1064 = .ok (.iconst 0, 1) := by decide +kernel
theorem dL_law_1065 : decode cL_law 1065 = .ok (.ireturn, 1) := by decide +kernel
theorem dL_law_1066 : decode cL_law 1066 = .ok (.iinc 5 1, 3) := by decide +kernel
theorem dL_law_1069 : decode cL_law 1069 = .ok (.goto (-1031), 3) := by decide +kernel
theorem dL_law_1072 : decode cL_law 1072 = .ok (.iconst 1, 1) := by decide +kernel
theorem dL_law_1073 : decode cL_law 1073 = .ok (.ireturn, 1) := by decide +kernel
