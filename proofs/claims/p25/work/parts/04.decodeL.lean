theorem dL_cell_0 : decode cL_cell 0 = .ok (.iload_n 1, 1) := by decide +kernel
theorem dL_cell_1 : decode cL_cell 1 = .ok (.aload_n 0, 1) := by decide +kernel
theorem dL_cell_2 : decode cL_cell 2 = .ok (.arraylength, 1) := by decide +kernel
theorem dL_cell_3 : decode cL_cell 3 = .ok (.if_icmp .ge 9, 3) := by decide +kernel
theorem dL_cell_6 : decode cL_cell 6 = .ok (.aload_n 0, 1) := by decide +kernel
theorem dL_cell_7 : decode cL_cell 7 = .ok (.iload_n 1, 1) := by decide +kernel
theorem dL_cell_8 : decode cL_cell 8 = .ok (.iaload, 1) := by decide +kernel
theorem dL_cell_9 : decode cL_cell 9 = .ok (.goto 10, 3) := by decide +kernel
theorem dL_cell_12 : decode cL_cell 12 = .ok (.ldc 7, 2) := by decide +kernel
theorem dL_cell_14 : decode cL_cell 14 = .ok (.iload_n 1, 1) := by decide +kernel
theorem dL_cell_15 : decode cL_cell 15 = .ok (.imul, 1) := by decide +kernel
theorem dL_cell_16 : decode cL_cell 16 = .ok (.bipush 109, 2) := by decide +kernel
theorem dL_cell_18 : decode cL_cell 18 = .ok (.iadd, 1) := by decide +kernel
theorem dL_cell_19 : decode cL_cell 19 = .ok (.ldc 8, 2) := by decide +kernel
theorem dL_cell_21 : decode cL_cell 21 = .ok (.iand, 1) := by decide +kernel
theorem dL_cell_22 : decode cL_cell 22 = .ok (.ireturn, 1) := by decide +kernel
theorem dL_holds_0 : decode cL_holds 0 = .ok (.iconst 0, 1) := by decide +kernel
theorem dL_holds_1 : decode cL_holds 1 = .ok (.istore_n 1, 1) := by decide +kernel
theorem dL_holds_2 : decode cL_holds 2 = .ok (.iconst 0, 1) := by decide +kernel
theorem dL_holds_3 : decode cL_holds 3 = .ok (.istore_n 2, 1) := by decide +kernel
theorem dL_holds_4 : decode cL_holds 4 = .ok (.aload_n 0, 1) := by decide +kernel
theorem dL_holds_5 : decode cL_holds 5 = .ok (.bipush 7, 2) := by decide +kernel
theorem dL_holds_7 : decode cL_holds 7 = .ok (.invokevirtual 9, 3) := by decide +kernel
theorem dL_holds_10 : decode cL_holds 10 = .ok (.aload_n 0, 1) := by decide +kernel
theorem dL_holds_11 : decode cL_holds 11 = .ok (.bipush 13, 2) := by decide +kernel
theorem dL_holds_13 : decode cL_holds 13 = .ok (.invokevirtual 9, 3) := by decide +kernel
theorem dL_holds_16 : decode cL_holds 16 = .ok (.if_icmp .gt 22, 3) := by decide +kernel
theorem dL_holds_19 : decode cL_holds 19 = .ok (.aload_n 0, 1) := by decide +kernel
theorem dL_holds_20 : decode cL_holds 20 = .ok (.bipush 7, 2) := by decide +kernel
theorem dL_holds_22 : decode cL_holds 22 = .ok (.invokevirtual 9, 3) := by decide +kernel
theorem dL_holds_25 : decode cL_holds 25 = .ok (.aload_n 0, 1) := by decide +kernel
theorem dL_holds_26 : decode cL_holds 26 = .ok (.bipush 6, 2) := by decide +kernel
theorem dL_holds_28 : decode cL_holds 28 = .ok (.invokevirtual 9, 3) := by decide +kernel
theorem dL_holds_31 : decode cL_holds 31 = .ok (.if_icmp .gt 7, 3) := by decide +kernel
theorem dL_holds_34 : decode cL_holds 34 = .ok (.iconst 1, 1) := by decide +kernel
theorem dL_holds_35 : decode cL_holds 35 = .ok (.goto 4, 3) := by decide +kernel
theorem dL_holds_38 : decode cL_holds 38 = .ok (.iconst 0, 1) := by decide +kernel
theorem dL_holds_39 : decode cL_holds 39 = .ok (.istore_n 3, 1) := by decide +kernel
theorem dL_holds_40 : decode cL_holds 40 = .ok (.iconst 0, 1) := by decide +kernel
theorem dL_holds_41 : decode cL_holds 41 = .ok (.istore 4, 2) := by decide +kernel
theorem dL_holds_43 : decode cL_holds 43 = .ok (.iload 4, 2) := by decide +kernel
theorem dL_holds_45 : decode cL_holds 45 = .ok (.aload_n 0, 1) := by decide +kernel
theorem dL_holds_46 : decode cL_holds 46 = .ok (.iconst 5, 1) := by decide +kernel
theorem dL_holds_47 : decode cL_holds 47 = .ok (.invokevirtual 9, 3) := by decide +kernel
theorem dL_holds_50 : decode cL_holds 50 = .ok (.if_icmp .ge 622, 3) := by decide +kernel
theorem dL_holds_53 : decode cL_holds 53 = .ok (.iload_n 3, 1) := by decide +kernel
theorem dL_holds_54 : decode cL_holds 54 = .ok (.ifCond .eq 618, 3) := by decide +kernel
theorem dL_holds_57 : decode cL_holds 57 = .ok (.aload_n 0, 1) := by decide +kernel
theorem dL_holds_58 : decode cL_holds 58 = .ok (.iload 4, 2) := by decide +kernel
theorem dL_holds_60 : decode cL_holds 60 = .ok (.bipush 8, 2) := by decide +kernel
theorem dL_holds_62 : decode cL_holds 62 = .ok (.invokevirtual 15, 3) := by decide +kernel
theorem dL_holds_65 : decode cL_holds 65 = .ok (.istore 5, 2) := by decide +kernel
theorem dL_holds_67 : decode cL_holds 67 = .ok (.aload_n 0, 1) := by decide +kernel
theorem dL_holds_68 : decode cL_holds 68 = .ok (.iload 4, 2) := by decide +kernel
theorem dL_holds_70 : decode cL_holds 70 = .ok (.bipush 9, 2) := by decide +kernel
theorem dL_holds_72 : decode cL_holds 72 = .ok (.invokevirtual 15, 3) := by decide +kernel
theorem dL_holds_75 : decode cL_holds 75 = .ok (.istore 6, 2) := by decide +kernel
theorem dL_holds_77 : decode cL_holds 77 = .ok (.iload_n 2, 1) := by decide +kernel
theorem dL_holds_78 : decode cL_holds 78 = .ok (.iload 5, 2) := by decide +kernel
theorem dL_holds_80 : decode cL_holds 80 = .ok (.iconst 1, 1) := by decide +kernel
theorem dL_holds_81 : decode cL_holds 81 = .ok (.if_icmp .ne 7, 3) := by decide +kernel
theorem dL_holds_84 : decode cL_holds 84 = .ok (.iconst 0, 1) := by decide +kernel
theorem dL_holds_85 : decode cL_holds 85 = .ok (.goto 4, 3) := by decide +kernel
theorem dL_holds_88 : decode cL_holds 88 = .ok (.iconst 1, 1) := by decide +kernel
theorem dL_holds_89 : decode cL_holds 89 = .ok (.iadd, 1) := by decide +kernel
theorem dL_holds_90 : decode cL_holds 90 = .ok (.istore_n 2, 1) := by decide +kernel
theorem dL_holds_91 : decode cL_holds 91 = .ok (.iload_n 1, 1) := by decide +kernel
theorem dL_holds_92 : decode cL_holds 92 = .ok (.iload 5, 2) := by decide +kernel
theorem dL_holds_94 : decode cL_holds 94 = .ok (.ifCond .ne 7, 3) := by decide +kernel
theorem dL_holds_97 : decode cL_holds 97 = .ok (.iconst 1, 1) := by decide +kernel
theorem dL_holds_98 : decode cL_holds 98 = .ok (.goto 4, 3) := by decide +kernel
theorem dL_holds_101 : decode cL_holds 101 = .ok (.iconst 0, 1) := by decide +kernel
theorem dL_holds_102 : decode cL_holds 102 = .ok (.iadd, 1) := by decide +kernel
theorem dL_holds_103 : decode cL_holds 103 = .ok (.istore_n 1, 1) := by decide +kernel
theorem dL_holds_104 : decode cL_holds 104 = .ok (.iload 5, 2) := by decide +kernel
theorem dL_holds_106 : decode cL_holds 106 = .ok (.ifCond .ne 7, 3) := by decide +kernel
theorem dL_holds_109 : decode cL_holds 109 = .ok (.iconst 1, 1) := by decide +kernel
theorem dL_holds_110 : decode cL_holds 110 = .ok (.goto 4, 3) := by decide +kernel
theorem dL_holds_113 : decode cL_holds 113 = .ok (.iconst 0, 1) := by decide +kernel
theorem dL_holds_114 : decode cL_holds 114 = .ok (.iload 6, 2) := by decide +kernel
theorem dL_holds_116 : decode cL_holds 116 = .ok (.ifCond .lt 7, 3) := by decide +kernel
theorem dL_holds_119 : decode cL_holds 119 = .ok (.iconst 1, 1) := by decide +kernel
theorem dL_holds_120 : decode cL_holds 120 = .ok (.goto 4, 3) := by decide +kernel
theorem dL_holds_123 : decode cL_holds 123 = .ok (.iconst 0, 1) := by decide +kernel
theorem dL_holds_124 : decode cL_holds 124 = .ok (.if_icmp .ne 88, 3) := by decide +kernel
theorem dL_holds_127 : decode cL_holds 127 = .ok (.iload 5, 2) := by decide +kernel
theorem dL_holds_129 : decode cL_holds 129 = .ok (.iconst 1, 1) := by decide +kernel
theorem dL_holds_130 : decode cL_holds 130 = .ok (.if_icmp .ne 7, 3) := by decide +kernel
theorem dL_holds_133 : decode cL_holds 133 = .ok (.iconst 1, 1) := by decide +kernel
theorem dL_holds_134 : decode cL_holds 134 = .ok (.goto 4, 3) := by decide +kernel
theorem dL_holds_137 : decode cL_holds 137 = .ok (.iconst 0, 1) := by decide +kernel
theorem dL_holds_138 : decode cL_holds 138 = .ok (.aload_n 0, 1) := by decide +kernel
theorem dL_holds_139 : decode cL_holds 139 = .ok (.iload 4, 2) := by decide +kernel
theorem dL_holds_141 : decode cL_holds 141 = .ok (.bipush 16, 2) := by decide +kernel
theorem dL_holds_143 : decode cL_holds 143 = .ok (.invokevirtual 15, 3) := by decide +kernel
theorem dL_holds_146 : decode cL_holds 146 = .ok (.sipush (-10004), 3) := by decide +kernel
theorem dL_holds_149 : decode cL_holds 149 = .ok (.if_icmp .ne 7, 3) := by decide +kernel
theorem dL_holds_152 : decode cL_holds 152 = .ok (.iconst 1, 1) := by decide +kernel
theorem dL_holds_153 : decode cL_holds 153 = .ok (.goto 4, 3) := by decide +kernel
theorem dL_holds_156 : decode cL_holds 156 = .ok (.iconst 0, 1) := by decide +kernel
theorem dL_holds_157 : decode cL_holds 157 = .ok (.if_icmp .ne 55, 3) := by decide +kernel
theorem dL_holds_160 : decode cL_holds 160 = .ok (.iload 5, 2) := by decide +kernel
theorem dL_holds_162 : decode cL_holds 162 = .ok (.iconst 5, 1) := by decide +kernel
theorem dL_holds_163 : decode cL_holds 163 = .ok (.if_icmp .ne 18, 3) := by decide +kernel
theorem dL_holds_166 : decode cL_holds 166 = .ok (.aload_n 0, 1) := by decide +kernel
theorem dL_holds_167 : decode cL_holds 167 = .ok (.bipush 7, 2) := by decide +kernel
theorem dL_holds_169 : decode cL_holds 169 = .ok (.invokevirtual 9, 3) := by decide +kernel
theorem dL_holds_172 : decode cL_holds 172 = .ok (.aload_n 0, 1) := by decide +kernel
theorem dL_holds_173 : decode cL_holds 173 = .ok (.bipush 13, 2) := by decide +kernel
theorem dL_holds_175 : decode cL_holds 175 = .ok (.invokevirtual 9, 3) := by decide +kernel
theorem dL_holds_178 : decode cL_holds 178 = .ok (.if_icmp .ne 34, 3) := by decide +kernel
theorem dL_holds_181 : decode cL_holds 181 = .ok (.iload 5, 2) := by decide +kernel
theorem dL_holds_183 : decode cL_holds 183 = .ok (.iconst 2, 1) := by decide +kernel
theorem dL_holds_184 : decode cL_holds 184 = .ok (.if_icmp .gt 24, 3) := by decide +kernel
theorem dL_holds_187 : decode cL_holds 187 = .ok (.iload 5, 2) := by decide +kernel
theorem dL_holds_189 : decode cL_holds 189 = .ok (.iconst 2, 1) := by decide +kernel
theorem dL_holds_190 : decode cL_holds 190 = .ok (.if_icmp .lt 18, 3) := by decide +kernel
theorem dL_holds_193 : decode cL_holds 193 = .ok (.aload_n 0, 1) := by decide +kernel
theorem dL_holds_194 : decode cL_holds 194 = .ok (.aload_n 0, 1) := by decide +kernel
theorem dL_holds_195 : decode cL_holds 195 = .ok (.iload 4, 2) := by decide +kernel
theorem dL_holds_197 : decode cL_holds 197 = .ok (.iconst 0, 1) := by decide +kernel
theorem dL_holds_198 : decode cL_holds 198 = .ok (.invokevirtual 15, 3) := by decide +kernel
theorem dL_holds_201 : decode cL_holds 201 = .ok (.iconst 4, 1) := by decide +kernel
theorem dL_holds_202 : decode cL_holds 202 = .ok (.invokevirtual 19, 3) := by decide +kernel
theorem dL_holds_205 : decode cL_holds 205 = .ok (.ifCond .ne 7, 3) := by decide +kernel
theorem dL_holds_208 : decode cL_holds 208 = .ok (.iconst 1, 1) := by decide +kernel
theorem dL_holds_209 : decode cL_holds 209 = .ok (.goto 4, 3) := by decide +kernel
theorem dL_holds_212 : decode cL_holds 212 = .ok (.iconst 0, 1) := by decide +kernel
theorem dL_holds_213 : decode cL_holds 213 = .ok (.istore_n 3, 1) := by decide +kernel
theorem dL_holds_214 : decode cL_holds 214 = .ok (.iload_n 3, 1) := by decide +kernel
theorem dL_holds_215 : decode cL_holds 215 = .ok (.ifCond .eq 451, 3) := by decide +kernel
theorem dL_holds_218 : decode cL_holds 218 = .ok (.iload 5, 2) := by decide +kernel
theorem dL_holds_220 : decode cL_holds 220 = .ok (.ifCond .ne 446, 3) := by decide +kernel
theorem dL_holds_223 : decode cL_holds 223 = .ok (.aload_n 0, 1) := by decide +kernel
theorem dL_holds_224 : decode cL_holds 224 = .ok (.iload 4, 2) := by decide +kernel
theorem dL_holds_226 : decode cL_holds 226 = .ok (.bipush 10, 2) := by decide +kernel
theorem dL_holds_228 : decode cL_holds 228 = .ok (.invokevirtual 15, 3) := by decide +kernel
theorem dL_holds_231 : decode cL_holds 231 = .ok (.istore 7, 2) := by decide +kernel
theorem dL_holds_233 : decode cL_holds 233 = .ok (.aload_n 0, 1) := by decide +kernel
theorem dL_holds_234 : decode cL_holds 234 = .ok (.iload 4, 2) := by decide +kernel
theorem dL_holds_236 : decode cL_holds 236 = .ok (.bipush 11, 2) := by decide +kernel
theorem dL_holds_238 : decode cL_holds 238 = .ok (.invokevirtual 15, 3) := by decide +kernel
theorem dL_holds_241 : decode cL_holds 241 = .ok (.istore 8, 2) := by decide +kernel
theorem dL_holds_243 : decode cL_holds 243 = .ok (.aload_n 0, 1) := by decide +kernel
theorem dL_holds_244 : decode cL_holds 244 = .ok (.iload 4, 2) := by decide +kernel
theorem dL_holds_246 : decode cL_holds 246 = .ok (.iconst 1, 1) := by decide +kernel
theorem dL_holds_247 : decode cL_holds 247 = .ok (.invokevirtual 15, 3) := by decide +kernel
theorem dL_holds_250 : decode cL_holds 250 = .ok (.istore 9, 2) := by decide +kernel
theorem dL_holds_252 : decode cL_holds 252 = .ok (.aload_n 0, 1) := by decide +kernel
theorem dL_holds_253 : decode cL_holds 253 = .ok (.iload 4, 2) := by decide +kernel
theorem dL_holds_255 : decode cL_holds 255 = .ok (.iconst 2, 1) := by decide +kernel
theorem dL_holds_256 : decode cL_holds 256 = .ok (.invokevirtual 15, 3) := by decide +kernel
theorem dL_holds_259 : decode cL_holds 259 = .ok (.istore 10, 2) := by decide +kernel
theorem dL_holds_261 : decode cL_holds 261 = .ok (.iload 7, 2) := by decide +kernel
theorem dL_holds_263 : decode cL_holds 263 = .ok (.aload_n 0, 1) := by decide +kernel
theorem dL_holds_264 : decode cL_holds 264 = .ok (.iconst 0, 1) := by decide +kernel
theorem dL_holds_265 : decode cL_holds 265 = .ok (.invokevirtual 9, 3) := by decide +kernel
theorem dL_holds_268 : decode cL_holds 268 = .ok (.if_icmp .lt 136, 3) := by decide +kernel
theorem dL_holds_271 : decode cL_holds 271 = .ok (.iload 8, 2) := by decide +kernel
theorem dL_holds_273 : decode cL_holds 273 = .ok (.aload_n 0, 1) := by decide +kernel
theorem dL_holds_274 : decode cL_holds 274 = .ok (.iconst 1, 1) := by decide +kernel
theorem dL_holds_275 : decode cL_holds 275 = .ok (.invokevirtual 9, 3) := by decide +kernel
theorem dL_holds_278 : decode cL_holds 278 = .ok (.if_icmp .lt 126, 3) := by decide +kernel
theorem dL_holds_281 : decode cL_holds 281 = .ok (.iload 7, 2) := by decide +kernel
theorem dL_holds_283 : decode cL_holds 283 = .ok (.iload 9, 2) := by decide +kernel
theorem dL_holds_285 : decode cL_holds 285 = .ok (.iadd, 1) := by decide +kernel
theorem dL_holds_286 : decode cL_holds 286 = .ok (.aload_n 0, 1) := by decide +kernel
theorem dL_holds_287 : decode cL_holds 287 = .ok (.iconst 0, 1) := by decide +kernel
theorem dL_holds_288 : decode cL_holds 288 = .ok (.invokevirtual 9, 3) := by decide +kernel
theorem dL_holds_291 : decode cL_holds 291 = .ok (.aload_n 0, 1) := by decide +kernel
theorem dL_holds_292 : decode cL_holds 292 = .ok (.iconst 2, 1) := by decide +kernel
theorem dL_holds_293 : decode cL_holds 293 = .ok (.invokevirtual 9, 3) := by decide +kernel
theorem dL_holds_296 : decode cL_holds 296 = .ok (.iadd, 1) := by decide +kernel
theorem dL_holds_297 : decode cL_holds 297 = .ok (.if_icmp .gt 107, 3) := by decide +kernel
theorem dL_holds_300 : decode cL_holds 300 = .ok (.iload 8, 2) := by decide +kernel
theorem dL_holds_302 : decode cL_holds 302 = .ok (.iload 10, 2) := by decide +kernel
theorem dL_holds_304 : decode cL_holds 304 = .ok (.iadd, 1) := by decide +kernel
theorem dL_holds_305 : decode cL_holds 305 = .ok (.aload_n 0, 1) := by decide +kernel
theorem dL_holds_306 : decode cL_holds 306 = .ok (.iconst 1, 1) := by decide +kernel
theorem dL_holds_307 : decode cL_holds 307 = .ok (.invokevirtual 9, 3) := by decide +kernel
theorem dL_holds_310 : decode cL_holds 310 = .ok (.aload_n 0, 1) := by decide +kernel
theorem dL_holds_311 : decode cL_holds 311 = .ok (.iconst 3, 1) := by decide +kernel
theorem dL_holds_312 : decode cL_holds 312 = .ok (.invokevirtual 9, 3) := by decide +kernel
theorem dL_holds_315 : decode cL_holds 315 = .ok (.iadd, 1) := by decide +kernel
theorem dL_holds_316 : decode cL_holds 316 = .ok (.if_icmp .gt 88, 3) := by decide +kernel
theorem dL_holds_319 : decode cL_holds 319 = .ok (.aload_n 0, 1) := by decide +kernel
theorem dL_holds_320 : decode cL_holds 320 = .ok (.iload 4, 2) := by decide +kernel
theorem dL_holds_322 : decode cL_holds 322 = .ok (.iload 6, 2) := by decide +kernel
theorem dL_holds_324 : decode cL_holds 324 = .ok (.iconst 0, 1) := by decide +kernel
theorem dL_holds_325 : decode cL_holds 325 = .ok (.invokevirtual 22, 3) := by decide +kernel
theorem dL_holds_328 : decode cL_holds 328 = .ok (.iconst 1, 1) := by decide +kernel
theorem dL_holds_329 : decode cL_holds 329 = .ok (.if_icmp .ne 75, 3) := by decide +kernel
theorem dL_holds_332 : decode cL_holds 332 = .ok (.aload_n 0, 1) := by decide +kernel
theorem dL_holds_333 : decode cL_holds 333 = .ok (.iload 4, 2) := by decide +kernel
theorem dL_holds_335 : decode cL_holds 335 = .ok (.iload 6, 2) := by decide +kernel
theorem dL_holds_337 : decode cL_holds 337 = .ok (.iconst 1, 1) := by decide +kernel
theorem dL_holds_338 : decode cL_holds 338 = .ok (.invokevirtual 22, 3) := by decide +kernel
theorem dL_holds_341 : decode cL_holds 341 = .ok (.iload 7, 2) := by decide +kernel
theorem dL_holds_343 : decode cL_holds 343 = .ok (.if_icmp .ne 61, 3) := by decide +kernel
theorem dL_holds_346 : decode cL_holds 346 = .ok (.aload_n 0, 1) := by decide +kernel
theorem dL_holds_347 : decode cL_holds 347 = .ok (.iload 4, 2) := by decide +kernel
theorem dL_holds_349 : decode cL_holds 349 = .ok (.iload 6, 2) := by decide +kernel
theorem dL_holds_351 : decode cL_holds 351 = .ok (.iconst 2, 1) := by decide +kernel
theorem dL_holds_352 : decode cL_holds 352 = .ok (.invokevirtual 22, 3) := by decide +kernel
theorem dL_holds_355 : decode cL_holds 355 = .ok (.iload 8, 2) := by decide +kernel
theorem dL_holds_357 : decode cL_holds 357 = .ok (.if_icmp .ne 47, 3) := by decide +kernel
theorem dL_holds_360 : decode cL_holds 360 = .ok (.aload_n 0, 1) := by decide +kernel
theorem dL_holds_361 : decode cL_holds 361 = .ok (.iload 4, 2) := by decide +kernel
theorem dL_holds_363 : decode cL_holds 363 = .ok (.iload 6, 2) := by decide +kernel
theorem dL_holds_365 : decode cL_holds 365 = .ok (.iconst 3, 1) := by decide +kernel
theorem dL_holds_366 : decode cL_holds 366 = .ok (.invokevirtual 22, 3) := by decide +kernel
theorem dL_holds_369 : decode cL_holds 369 = .ok (.aload_n 0, 1) := by decide +kernel
theorem dL_holds_370 : decode cL_holds 370 = .ok (.iload 4, 2) := by decide +kernel
theorem dL_holds_372 : decode cL_holds 372 = .ok (.bipush 14, 2) := by decide +kernel
theorem dL_holds_374 : decode cL_holds 374 = .ok (.invokevirtual 15, 3) := by decide +kernel
theorem dL_holds_377 : decode cL_holds 377 = .ok (.if_icmp .ne 27, 3) := by decide +kernel
theorem dL_holds_380 : decode cL_holds 380 = .ok (.aload_n 0, 1) := by decide +kernel
theorem dL_holds_381 : decode cL_holds 381 = .ok (.iload 4, 2) := by decide +kernel
theorem dL_holds_383 : decode cL_holds 383 = .ok (.iload 6, 2) := by decide +kernel
theorem dL_holds_385 : decode cL_holds 385 = .ok (.iconst 4, 1) := by decide +kernel
theorem dL_holds_386 : decode cL_holds 386 = .ok (.invokevirtual 22, 3) := by decide +kernel
theorem dL_holds_389 : decode cL_holds 389 = .ok (.aload_n 0, 1) := by decide +kernel
theorem dL_holds_390 : decode cL_holds 390 = .ok (.iload 4, 2) := by decide +kernel
theorem dL_holds_392 : decode cL_holds 392 = .ok (.bipush 12, 2) := by decide +kernel
theorem dL_holds_394 : decode cL_holds 394 = .ok (.invokevirtual 15, 3) := by decide +kernel
theorem dL_holds_397 : decode cL_holds 397 = .ok (.if_icmp .ne 7, 3) := by decide +kernel
theorem dL_holds_400 : decode cL_holds 400 = .ok (.iconst 1, 1) := by decide +kernel
theorem dL_holds_401 : decode cL_holds 401 = .ok (.goto 4, 3) := by decide +kernel
theorem dL_holds_404 : decode cL_holds 404 = .ok (.iconst 0, 1) := by decide +kernel
theorem dL_holds_405 : decode cL_holds 405 = .ok (.istore_n 3, 1) := by decide +kernel
theorem dL_holds_406 : decode cL_holds 406 = .ok (.iload_n 3, 1) := by decide +kernel
theorem dL_holds_407 : decode cL_holds 407 = .ok (.ifCond .eq 142, 3) := by decide +kernel
theorem dL_holds_410 : decode cL_holds 410 = .ok (.aload_n 0, 1) := by decide +kernel
theorem dL_holds_411 : decode cL_holds 411 = .ok (.iload 7, 2) := by decide +kernel
theorem dL_holds_413 : decode cL_holds 413 = .ok (.iload 8, 2) := by decide +kernel
theorem dL_holds_415 : decode cL_holds 415 = .ok (.invokevirtual 26, 3) := by decide +kernel
theorem dL_holds_418 : decode cL_holds 418 = .ok (.iload 4, 2) := by decide +kernel
theorem dL_holds_420 : decode cL_holds 420 = .ok (.if_icmp .ne 129, 3) := by decide +kernel
theorem dL_holds_423 : decode cL_holds 423 = .ok (.aload_n 0, 1) := by decide +kernel
theorem dL_holds_424 : decode cL_holds 424 = .ok (.iload 7, 2) := by decide +kernel
theorem dL_holds_426 : decode cL_holds 426 = .ok (.iload 9, 2) := by decide +kernel
theorem dL_holds_428 : decode cL_holds 428 = .ok (.iadd, 1) := by decide +kernel
theorem dL_holds_429 : decode cL_holds 429 = .ok (.iconst 1, 1) := by decide +kernel
theorem dL_holds_430 : decode cL_holds 430 = .ok (.isub, 1) := by decide +kernel
theorem dL_holds_431 : decode cL_holds 431 = .ok (.iload 8, 2) := by decide +kernel
theorem dL_holds_433 : decode cL_holds 433 = .ok (.iload 10, 2) := by decide +kernel
theorem dL_holds_435 : decode cL_holds 435 = .ok (.iadd, 1) := by decide +kernel
theorem dL_holds_436 : decode cL_holds 436 = .ok (.iconst 1, 1) := by decide +kernel
theorem dL_holds_437 : decode cL_holds 437 = .ok (.isub, 1) := by decide +kernel
theorem dL_holds_438 : decode cL_holds 438 = .ok (.invokevirtual 26, 3) := by decide +kernel
theorem dL_holds_441 : decode cL_holds 441 = .ok (.iload 4, 2) := by decide +kernel
theorem dL_holds_443 : decode cL_holds 443 = .ok (.if_icmp .ne 106, 3) := by decide +kernel
theorem dL_holds_446 : decode cL_holds 446 = .ok (.aload_n 0, 1) := by decide +kernel
theorem dL_holds_447 : decode cL_holds 447 = .ok (.iload 4, 2) := by decide +kernel
theorem dL_holds_449 : decode cL_holds 449 = .ok (.bipush 6, 2) := by decide +kernel
theorem dL_holds_451 : decode cL_holds 451 = .ok (.invokevirtual 15, 3) := by decide +kernel
theorem dL_holds_454 : decode cL_holds 454 = .ok (.iconst 1, 1) := by decide +kernel
theorem dL_holds_455 : decode cL_holds 455 = .ok (.if_icmp .eq 14, 3) := by decide +kernel
theorem dL_holds_458 : decode cL_holds 458 = .ok (.aload_n 0, 1) := by decide +kernel
theorem dL_holds_459 : decode cL_holds 459 = .ok (.iload 4, 2) := by decide +kernel
theorem dL_holds_461 : decode cL_holds 461 = .ok (.bipush 14, 2) := by decide +kernel
theorem dL_holds_463 : decode cL_holds 463 = .ok (.invokevirtual 15, 3) := by decide +kernel
theorem dL_holds_466 : decode cL_holds 466 = .ok (.ifCond .ne 83, 3) := by decide +kernel
theorem dL_holds_469 : decode cL_holds 469 = .ok (.aload_n 0, 1) := by decide +kernel
theorem dL_holds_470 : decode cL_holds 470 = .ok (.iload 4, 2) := by decide +kernel
theorem dL_holds_472 : decode cL_holds 472 = .ok (.bipush 13, 2) := by decide +kernel
theorem dL_holds_474 : decode cL_holds 474 = .ok (.invokevirtual 15, 3) := by decide +kernel
theorem dL_holds_477 : decode cL_holds 477 = .ok (.iconst 1, 1) := by decide +kernel
theorem dL_holds_478 : decode cL_holds 478 = .ok (.if_icmp .ne 7, 3) := by decide +kernel
theorem dL_holds_481 : decode cL_holds 481 = .ok (.iconst 1, 1) := by decide +kernel
theorem dL_holds_482 : decode cL_holds 482 = .ok (.goto 4, 3) := by decide +kernel
theorem dL_holds_485 : decode cL_holds 485 = .ok (.iconst 0, 1) := by decide +kernel
theorem dL_holds_486 : decode cL_holds 486 = .ok (.aload_n 0, 1) := by decide +kernel
theorem dL_holds_487 : decode cL_holds 487 = .ok (.iload 4, 2) := by decide +kernel
theorem dL_holds_489 : decode cL_holds 489 = .ok (.bipush 12, 2) := by decide +kernel
theorem dL_holds_491 : decode cL_holds 491 = .ok (.invokevirtual 15, 3) := by decide +kernel
theorem dL_holds_494 : decode cL_holds 494 = .ok (.aload_n 0, 1) := by decide +kernel
theorem dL_holds_495 : decode cL_holds 495 = .ok (.bipush 12, 2) := by decide +kernel
theorem dL_holds_497 : decode cL_holds 497 = .ok (.invokevirtual 9, 3) := by decide +kernel
theorem dL_holds_500 : decode cL_holds 500 = .ok (.if_icmp .lt 41, 3) := by decide +kernel
theorem dL_holds_503 : decode cL_holds 503 = .ok (.aload_n 0, 1) := by decide +kernel
theorem dL_holds_504 : decode cL_holds 504 = .ok (.iload 4, 2) := by decide +kernel
theorem dL_holds_506 : decode cL_holds 506 = .ok (.bipush 12, 2) := by decide +kernel
theorem dL_holds_508 : decode cL_holds 508 = .ok (.invokevirtual 15, 3) := by decide +kernel
theorem dL_holds_511 : decode cL_holds 511 = .ok (.iload 6, 2) := by decide +kernel
theorem dL_holds_513 : decode cL_holds 513 = .ok (.iconst 2, 1) := by decide +kernel
theorem dL_holds_514 : decode cL_holds 514 = .ok (.irem, 1) := by decide +kernel
theorem dL_holds_515 : decode cL_holds 515 = .ok (.ifCond .ne 8, 3) := by decide +kernel
theorem dL_holds_518 : decode cL_holds 518 = .ok (.iload 9, 2) := by decide +kernel
theorem dL_holds_520 : decode cL_holds 520 = .ok (.goto 5, 3) := by decide +kernel
theorem dL_holds_523 : decode cL_holds 523 = .ok (.iload 10, 2) := by decide +kernel
theorem dL_holds_525 : decode cL_holds 525 = .ok (.iconst 1, 1) := by decide +kernel
theorem dL_holds_526 : decode cL_holds 526 = .ok (.isub, 1) := by decide +kernel
theorem dL_holds_527 : decode cL_holds 527 = .ok (.aload_n 0, 1) := by decide +kernel
theorem dL_holds_528 : decode cL_holds 528 = .ok (.bipush 12, 2) := by decide +kernel
theorem dL_holds_530 : decode cL_holds 530 = .ok (.invokevirtual 9, 3) := by decide +kernel
theorem dL_holds_533 : decode cL_holds 533 = .ok (.isub, 1) := by decide +kernel
theorem dL_holds_534 : decode cL_holds 534 = .ok (.if_icmp .gt 7, 3) := by decide +kernel
theorem dL_holds_537 : decode cL_holds 537 = .ok (.iconst 1, 1) := by decide +kernel
theorem dL_holds_538 : decode cL_holds 538 = .ok (.goto 4, 3) := by decide +kernel
theorem dL_holds_541 : decode cL_holds 541 = .ok (.iconst 0, 1) := by decide +kernel
theorem dL_holds_542 : decode cL_holds 542 = .ok (.if_icmp .ne 7, 3) := by decide +kernel
theorem dL_holds_545 : decode cL_holds 545 = .ok (.iconst 1, 1) := by decide +kernel
theorem dL_holds_546 : decode cL_holds 546 = .ok (.goto 4, 3) := by decide +kernel
theorem dL_holds_549 : decode cL_holds 549 = .ok (.iconst 0, 1) := by decide +kernel
theorem dL_holds_550 : decode cL_holds 550 = .ok (.istore_n 3, 1) := by decide +kernel
theorem dL_holds_551 : decode cL_holds 551 = .ok (.iconst 0, 1) := by decide +kernel
theorem dL_holds_552 : decode cL_holds 552 = .ok (.istore 11, 2) := by decide +kernel
theorem dL_holds_554 : decode cL_holds 554 = .ok (.iload 11, 2) := by decide +kernel
theorem dL_holds_556 : decode cL_holds 556 = .ok (.iload 4, 2) := by decide +kernel
theorem dL_holds_558 : decode cL_holds 558 = .ok (.if_icmp .ge 108, 3) := by decide +kernel
theorem dL_holds_561 : decode cL_holds 561 = .ok (.iload_n 3, 1) := by decide +kernel
theorem dL_holds_562 : decode cL_holds 562 = .ok (.ifCond .eq 104, 3) := by decide +kernel
theorem dL_holds_565 : decode cL_holds 565 = .ok (.aload_n 0, 1) := by decide +kernel
theorem dL_holds_566 : decode cL_holds 566 = .ok (.iload 11, 2) := by decide +kernel
theorem dL_holds_568 : decode cL_holds 568 = .ok (.bipush 8, 2) := by decide +kernel
theorem dL_holds_570 : decode cL_holds 570 = .ok (.invokevirtual 15, 3) := by decide +kernel
theorem dL_holds_573 : decode cL_holds 573 = .ok (.ifCond .gt 77, 3) := by decide +kernel
theorem dL_holds_576 : decode cL_holds 576 = .ok (.aload_n 0, 1) := by decide +kernel
theorem dL_holds_577 : decode cL_holds 577 = .ok (.iload 11, 2) := by decide +kernel
theorem dL_holds_579 : decode cL_holds 579 = .ok (.bipush 10, 2) := by decide +kernel
theorem dL_holds_581 : decode cL_holds 581 = .ok (.invokevirtual 15, 3) := by decide +kernel
theorem dL_holds_584 : decode cL_holds 584 = .ok (.iload 7, 2) := by decide +kernel
theorem dL_holds_586 : decode cL_holds 586 = .ok (.iload 9, 2) := by decide +kernel
theorem dL_holds_588 : decode cL_holds 588 = .ok (.iadd, 1) := by decide +kernel
theorem dL_holds_589 : decode cL_holds 589 = .ok (.if_icmp .ge 61, 3) := by decide +kernel
theorem dL_holds_592 : decode cL_holds 592 = .ok (.aload_n 0, 1) := by decide +kernel
theorem dL_holds_593 : decode cL_holds 593 = .ok (.iload 11, 2) := by decide +kernel
theorem dL_holds_595 : decode cL_holds 595 = .ok (.bipush 10, 2) := by decide +kernel
theorem dL_holds_597 : decode cL_holds 597 = .ok (.invokevirtual 15, 3) := by decide +kernel
theorem dL_holds_600 : decode cL_holds 600 = .ok (.aload_n 0, 1) := by decide +kernel
theorem dL_holds_601 : decode cL_holds 601 = .ok (.iload 11, 2) := by decide +kernel
theorem dL_holds_603 : decode cL_holds 603 = .ok (.iconst 1, 1) := by decide +kernel
theorem dL_holds_604 : decode cL_holds 604 = .ok (.invokevirtual 15, 3) := by decide +kernel
theorem dL_holds_607 : decode cL_holds 607 = .ok (.iadd, 1) := by decide +kernel
theorem dL_holds_608 : decode cL_holds 608 = .ok (.iload 7, 2) := by decide +kernel
theorem dL_holds_610 : decode cL_holds 610 = .ok (.if_icmp .le 40, 3) := by decide +kernel
theorem dL_holds_613 : decode cL_holds 613 = .ok (.aload_n 0, 1) := by decide +kernel
theorem dL_holds_614 : decode cL_holds 614 = .ok (.iload 11, 2) := by decide +kernel
theorem dL_holds_616 : decode cL_holds 616 = .ok (.bipush 11, 2) := by decide +kernel
theorem dL_holds_618 : decode cL_holds 618 = .ok (.invokevirtual 15, 3) := by decide +kernel
theorem dL_holds_621 : decode cL_holds 621 = .ok (.iload 8, 2) := by decide +kernel
theorem dL_holds_623 : decode cL_holds 623 = .ok (.iload 10, 2) := by decide +kernel
theorem dL_holds_625 : decode cL_holds 625 = .ok (.iadd, 1) := by decide +kernel
theorem dL_holds_626 : decode cL_holds 626 = .ok (.if_icmp .ge 24, 3) := by decide +kernel
theorem dL_holds_629 : decode cL_holds 629 = .ok (.aload_n 0, 1) := by decide +kernel
theorem dL_holds_630 : decode cL_holds 630 = .ok (.iload 11, 2) := by decide +kernel
theorem dL_holds_632 : decode cL_holds 632 = .ok (.bipush 11, 2) := by decide +kernel
theorem dL_holds_634 : decode cL_holds 634 = .ok (.invokevirtual 15, 3) := by decide +kernel
theorem dL_holds_637 : decode cL_holds 637 = .ok (.aload_n 0, 1) := by decide +kernel
theorem dL_holds_638 : decode cL_holds 638 = .ok (.iload 11, 2) := by decide +kernel
theorem dL_holds_640 : decode cL_holds 640 = .ok (.iconst 2, 1) := by decide +kernel
theorem dL_holds_641 : decode cL_holds 641 = .ok (.invokevirtual 15, 3) := by decide +kernel
theorem dL_holds_644 : decode cL_holds 644 = .ok (.iadd, 1) := by decide +kernel
theorem dL_holds_645 : decode cL_holds 645 = .ok (.iload 8, 2) := by decide +kernel
theorem dL_holds_647 : decode cL_holds 647 = .ok (.if_icmp .gt 7, 3) := by decide +kernel
theorem dL_holds_650 : decode cL_holds 650 = .ok (.iconst 1, 1) := by decide +kernel
theorem dL_holds_651 : decode cL_holds 651 = .ok (.goto 4, 3) := by decide +kernel
theorem dL_holds_654 : decode cL_holds 654 = .ok (.iconst 0, 1) := by decide +kernel
theorem dL_holds_655 : decode cL_holds 655 = .ok (.istore 12, 2) := by decide +kernel
theorem dL_holds_657 : decode cL_holds 657 = .ok (.iload 12, 2) := by decide +kernel
theorem dL_holds_659 : decode cL_holds 659 = .ok (.istore_n 3, 1) := by decide +kernel
theorem dL_holds_660 : decode cL_holds 660 = .ok (.iinc 11 1, 3) := by decide +kernel
theorem dL_holds_663 : decode cL_holds 663 = .ok (.goto (-109), 3) := by decide +kernel
theorem dL_holds_666 : decode cL_holds 666 = .ok (.iinc 4 1, 3) := by decide +kernel
theorem dL_holds_669 : decode cL_holds 669 = .ok (.goto (-626), 3) := by decide +kernel
theorem dL_holds_672 : decode cL_holds 672 = .ok (.iconst 0, 1) := by decide +kernel
theorem dL_holds_673 : decode cL_holds 673 = .ok (.istore 4, 2) := by decide +kernel
theorem dL_holds_675 : decode cL_holds 675 = .ok (.iconst 0, 1) := by decide +kernel
theorem dL_holds_676 : decode cL_holds 676 = .ok (.istore 5, 2) := by decide +kernel
theorem dL_holds_678 : decode cL_holds 678 = .ok (.iconst 0, 1) := by decide +kernel
theorem dL_holds_679 : decode cL_holds 679 = .ok (.istore 6, 2) := by decide +kernel
theorem dL_holds_681 : decode cL_holds 681 = .ok (.iload 6, 2) := by decide +kernel
theorem dL_holds_683 : decode cL_holds 683 = .ok (.aload_n 0, 1) := by decide +kernel
theorem dL_holds_684 : decode cL_holds 684 = .ok (.iconst 4, 1) := by decide +kernel
theorem dL_holds_685 : decode cL_holds 685 = .ok (.invokevirtual 9, 3) := by decide +kernel
theorem dL_holds_688 : decode cL_holds 688 = .ok (.if_icmp .ge 34, 3) := by decide +kernel
theorem dL_holds_691 : decode cL_holds 691 = .ok (.iload 4, 2) := by decide +kernel
theorem dL_holds_693 : decode cL_holds 693 = .ok (.aload_n 0, 1) := by decide +kernel
theorem dL_holds_694 : decode cL_holds 694 = .ok (.iload 6, 2) := by decide +kernel
theorem dL_holds_696 : decode cL_holds 696 = .ok (.iconst 5, 1) := by decide +kernel
theorem dL_holds_697 : decode cL_holds 697 = .ok (.invokevirtual 19, 3) := by decide +kernel
theorem dL_holds_700 : decode cL_holds 700 = .ok (.iadd, 1) := by decide +kernel
theorem dL_holds_701 : decode cL_holds 701 = .ok (.istore 4, 2) := by decide +kernel
theorem dL_holds_703 : decode cL_holds 703 = .ok (.iload 5, 2) := by decide +kernel
theorem dL_holds_705 : decode cL_holds 705 = .ok (.aload_n 0, 1) := by decide +kernel
theorem dL_holds_706 : decode cL_holds 706 = .ok (.iload 6, 2) := by decide +kernel
theorem dL_holds_708 : decode cL_holds 708 = .ok (.bipush 6, 2) := by decide +kernel
theorem dL_holds_710 : decode cL_holds 710 = .ok (.invokevirtual 19, 3) := by decide +kernel
theorem dL_holds_713 : decode cL_holds 713 = .ok (.iadd, 1) := by decide +kernel
theorem dL_holds_714 : decode cL_holds 714 = .ok (.istore 5, 2) := by decide +kernel
theorem dL_holds_716 : decode cL_holds 716 = .ok (.iinc 6 1, 3) := by decide +kernel
theorem dL_holds_719 : decode cL_holds 719 = .ok (.goto (-38), 3) := by decide +kernel
theorem dL_holds_722 : decode cL_holds 722 = .ok (.iload_n 3, 1) := by decide +kernel
theorem dL_holds_723 : decode cL_holds 723 = .ok (.ifCond .eq 43, 3) := by decide +kernel
theorem dL_holds_726 : decode cL_holds 726 = .ok (.iload_n 2, 1) := by decide +kernel
theorem dL_holds_727 : decode cL_holds 727 = .ok (.aload_n 0, 1) := by decide +kernel
theorem dL_holds_728 : decode cL_holds 728 = .ok (.bipush 6, 2) := by decide +kernel
theorem dL_holds_730 : decode cL_holds 730 = .ok (.invokevirtual 9, 3) := by decide +kernel
theorem dL_holds_733 : decode cL_holds 733 = .ok (.if_icmp .ne 33, 3) := by decide +kernel
theorem dL_holds_736 : decode cL_holds 736 = .ok (.iload_n 1, 1) := by decide +kernel
theorem dL_holds_737 : decode cL_holds 737 = .ok (.aload_n 0, 1) := by decide +kernel
theorem dL_holds_738 : decode cL_holds 738 = .ok (.bipush 7, 2) := by decide +kernel
theorem dL_holds_740 : decode cL_holds 740 = .ok (.invokevirtual 9, 3) := by decide +kernel
theorem dL_holds_743 : decode cL_holds 743 = .ok (.if_icmp .ne 23, 3) := by decide +kernel
theorem dL_holds_746 : decode cL_holds 746 = .ok (.iload 4, 2) := by decide +kernel
theorem dL_holds_748 : decode cL_holds 748 = .ok (.aload_n 0, 1) := by decide +kernel
theorem dL_holds_749 : decode cL_holds 749 = .ok (.iconst 5, 1) := by decide +kernel
theorem dL_holds_750 : decode cL_holds 750 = .ok (.invokevirtual 9, 3) := by decide +kernel
theorem dL_holds_753 : decode cL_holds 753 = .ok (.if_icmp .ne 13, 3) := by decide +kernel
theorem dL_holds_756 : decode cL_holds 756 = .ok (.iload 5, 2) := by decide +kernel
theorem dL_holds_758 : decode cL_holds 758 = .ok (.iload_n 1, 1) := by decide +kernel
theorem dL_holds_759 : decode cL_holds 759 = .ok (.if_icmp .ne 7, 3) := by decide +kernel
theorem dL_holds_762 : decode cL_holds 762 = .ok (.iconst 1, 1) := by decide +kernel
theorem dL_holds_763 : decode cL_holds 763 = .ok (.goto 4, 3) := by decide +kernel
theorem dL_holds_766 : decode cL_holds 766 = .ok (.iconst 0, 1) := by decide +kernel
theorem dL_holds_767 : decode cL_holds 767 = .ok (.ireturn, 1) := by decide +kernel
theorem dL_law_0 : decode cL_law 0 = .ok (.new 10, 3) := by decide +kernel
theorem dL_law_3 : decode cL_law 3 = .ok (.dup, 1) := by decide +kernel
theorem dL_law_4 : decode cL_law 4 = .ok (.invokespecial 29, 3) := by decide +kernel
theorem dL_law_7 : decode cL_law 7 = .ok (.astore_n 1, 1) := by decide +kernel
theorem dL_law_8 : decode cL_law 8 = .ok (.aload_n 1, 1) := by decide +kernel
theorem dL_law_9 : decode cL_law 9 = .ok (.invokestatic 30, 3) := by decide +kernel
theorem dL_law_12 : decode cL_law 12 = .ok (.ifCond .eq 38, 3) := by decide +kernel
theorem dL_law_15 : decode cL_law 15 = .ok (.aload_n 1, 1) := by decide +kernel
theorem dL_law_16 : decode cL_law 16 = .ok (.bipush 100, 2) := by decide +kernel
theorem dL_law_18 : decode cL_law 18 = .ok (.aload_n 0, 1) := by decide +kernel
theorem dL_law_19 : decode cL_law 19 = .ok (.iconst 0, 1) := by decide +kernel
theorem dL_law_20 : decode cL_law 20 = .ok (.invokestatic 36, 3) := by decide +kernel
theorem dL_law_23 : decode cL_law 23 = .ok (.sipush 200, 3) := by decide +kernel
theorem dL_law_26 : decode cL_law 26 = .ok (.irem, 1) := by decide +kernel
theorem dL_law_27 : decode cL_law 27 = .ok (.iadd, 1) := by decide +kernel
theorem dL_law_28 : decode cL_law 28 = .ok (.bipush 60, 2) := by decide +kernel
theorem dL_law_30 : decode cL_law 30 = .ok (.aload_n 0, 1) := by decide +kernel
theorem dL_law_31 : decode cL_law 31 = .ok (.iconst 1, 1) := by decide +kernel
theorem dL_law_32 : decode cL_law 32 = .ok (.invokestatic 36, 3) := by decide +kernel
theorem dL_law_35 : decode cL_law 35 = .ok (.sipush 150, 3) := by decide +kernel
theorem dL_law_38 : decode cL_law 38 = .ok (.irem, 1) := by decide +kernel
theorem dL_law_39 : decode cL_law 39 = .ok (.iadd, 1) := by decide +kernel
theorem dL_law_40 : decode cL_law 40 = .ok (.invokevirtual 40, 3) := by decide +kernel
theorem dL_law_43 : decode cL_law 43 = .ok (.ifCond .ne 7, 3) := by decide +kernel
theorem dL_law_46 : decode cL_law 46 = .ok (.iconst 1, 1) := by decide +kernel
theorem dL_law_47 : decode cL_law 47 = .ok (.goto 4, 3) := by decide +kernel
theorem dL_law_50 : decode cL_law 50 = .ok (.iconst 0, 1) := by decide +kernel
theorem dL_law_51 : decode cL_law 51 = .ok (.istore_n 2, 1) := by decide +kernel
theorem dL_law_52 : decode cL_law 52 = .ok (.iconst 0, 1) := by decide +kernel
theorem dL_law_53 : decode cL_law 53 = .ok (.istore_n 3, 1) := by decide +kernel
theorem dL_law_54 : decode cL_law 54 = .ok (.iload_n 3, 1) := by decide +kernel
theorem dL_law_55 : decode cL_law 55 = .ok (.iconst 5, 1) := by decide +kernel
theorem dL_law_56 : decode cL_law 56 = .ok (.if_icmp .ge 71, 3) := by decide +kernel
theorem dL_law_59 : decode cL_law 59 = .ok (.iload_n 2, 1) := by decide +kernel
theorem dL_law_60 : decode cL_law 60 = .ok (.ifCond .eq 67, 3) := by decide +kernel
theorem dL_law_63 : decode cL_law 63 = .ok (.aload_n 0, 1) := by decide +kernel
theorem dL_law_64 : decode cL_law 64 = .ok (.iconst 2, 1) := by decide +kernel
theorem dL_law_65 : decode cL_law 65 = .ok (.iload_n 3, 1) := by decide +kernel
theorem dL_law_66 : decode cL_law 66 = .ok (.iadd, 1) := by decide +kernel
theorem dL_law_67 : decode cL_law 67 = .ok (.invokestatic 36, 3) := by decide +kernel
theorem dL_law_70 : decode cL_law 70 = .ok (.istore 4, 2) := by decide +kernel
theorem dL_law_72 : decode cL_law 72 = .ok (.aload_n 1, 1) := by decide +kernel
theorem dL_law_73 : decode cL_law 73 = .ok (.iload 4, 2) := by decide +kernel
theorem dL_law_75 : decode cL_law 75 = .ok (.sipush 180, 3) := by decide +kernel
theorem dL_law_78 : decode cL_law 78 = .ok (.irem, 1) := by decide +kernel
theorem dL_law_79 : decode cL_law 79 = .ok (.iload 4, 2) := by decide +kernel
theorem dL_law_81 : decode cL_law 81 = .ok (.sipush 256, 3) := by decide +kernel
theorem dL_law_84 : decode cL_law 84 = .ok (.idiv, 1) := by decide +kernel
theorem dL_law_85 : decode cL_law 85 = .ok (.bipush 120, 2) := by decide +kernel
theorem dL_law_87 : decode cL_law 87 = .ok (.irem, 1) := by decide +kernel
theorem dL_law_88 : decode cL_law 88 = .ok (.iconst 1, 1) := by decide +kernel
theorem dL_law_89 : decode cL_law 89 = .ok (.iload 4, 2) := by decide +kernel
theorem dL_law_91 : decode cL_law 91 = .ok (.bipush 8, 2) := by decide +kernel
theorem dL_law_93 : decode cL_law 93 = .ok (.idiv, 1) := by decide +kernel
theorem dL_law_94 : decode cL_law 94 = .ok (.bipush 40, 2) := by decide +kernel
theorem dL_law_96 : decode cL_law 96 = .ok (.irem, 1) := by decide +kernel
theorem dL_law_97 : decode cL_law 97 = .ok (.iadd, 1) := by decide +kernel
theorem dL_law_98 : decode cL_law 98 = .ok (.iconst 1, 1) := by decide +kernel
theorem dL_law_99 : decode cL_law 99 = .ok (.iload 4, 2) := by decide +kernel
theorem dL_law_101 : decode cL_law 101 = .ok (.bipush 64, 2) := by decide +kernel
theorem dL_law_103 : decode cL_law 103 = .ok (.idiv, 1) := by decide +kernel
theorem dL_law_104 : decode cL_law 104 = .ok (.bipush 20, 2) := by decide +kernel
theorem dL_law_106 : decode cL_law 106 = .ok (.irem, 1) := by decide +kernel
theorem dL_law_107 : decode cL_law 107 = .ok (.iadd, 1) := by decide +kernel
theorem dL_law_108 : decode cL_law 108 = .ok (.invokevirtual 43, 3) := by decide +kernel
theorem dL_law_111 : decode cL_law 111 = .ok (.iload_n 3, 1) := by decide +kernel
theorem dL_law_112 : decode cL_law 112 = .ok (.if_icmp .ne 7, 3) := by decide +kernel
theorem dL_law_115 : decode cL_law 115 = .ok (.iconst 1, 1) := by decide +kernel
theorem dL_law_116 : decode cL_law 116 = .ok (.goto 4, 3) := by decide +kernel
theorem dL_law_119 : decode cL_law 119 = .ok (.iconst 0, 1) := by decide +kernel
theorem dL_law_120 : decode cL_law 120 = .ok (.istore_n 2, 1) := by decide +kernel
theorem dL_law_121 : decode cL_law 121 = .ok (.iinc 3 1, 3) := by decide +kernel
theorem dL_law_124 : decode cL_law 124 = .ok (.goto (-70), 3) := by decide +kernel
theorem dL_law_127 : decode cL_law 127 = .ok (.iconst 0, 1) := by decide +kernel
theorem dL_law_128 : decode cL_law 128 = .ok (.istore_n 3, 1) := by decide +kernel
theorem dL_law_129 : decode cL_law 129 = .ok (.iload_n 3, 1) := by decide +kernel
theorem dL_law_130 : decode cL_law 130 = .ok (.bipush 9, 2) := by decide +kernel
theorem dL_law_132 : decode cL_law 132 = .ok (.if_icmp .ge 108, 3) := by decide +kernel
theorem dL_law_135 : decode cL_law 135 = .ok (.iload_n 2, 1) := by decide +kernel
theorem dL_law_136 : decode cL_law 136 = .ok (.ifCond .eq 104, 3) := by decide +kernel
theorem dL_law_139 : decode cL_law 139 = .ok (.aload_n 0, 1) := by decide +kernel
theorem dL_law_140 : decode cL_law 140 = .ok (.bipush 7, 2) := by decide +kernel
theorem dL_law_142 : decode cL_law 142 = .ok (.iload_n 3, 1) := by decide +kernel
theorem dL_law_143 : decode cL_law 143 = .ok (.iadd, 1) := by decide +kernel
theorem dL_law_144 : decode cL_law 144 = .ok (.invokestatic 36, 3) := by decide +kernel
theorem dL_law_147 : decode cL_law 147 = .ok (.istore 4, 2) := by decide +kernel
theorem dL_law_149 : decode cL_law 149 = .ok (.aload_n 1, 1) := by decide +kernel
theorem dL_law_150 : decode cL_law 150 = .ok (.iload 4, 2) := by decide +kernel
theorem dL_law_152 : decode cL_law 152 = .ok (.iconst 5, 1) := by decide +kernel
theorem dL_law_153 : decode cL_law 153 = .ok (.irem, 1) := by decide +kernel
theorem dL_law_154 : decode cL_law 154 = .ok (.iconst 1, 1) := by decide +kernel
theorem dL_law_155 : decode cL_law 155 = .ok (.iload 4, 2) := by decide +kernel
theorem dL_law_157 : decode cL_law 157 = .ok (.bipush 16, 2) := by decide +kernel
theorem dL_law_159 : decode cL_law 159 = .ok (.idiv, 1) := by decide +kernel
theorem dL_law_160 : decode cL_law 160 = .ok (.bipush 90, 2) := by decide +kernel
theorem dL_law_162 : decode cL_law 162 = .ok (.irem, 1) := by decide +kernel
theorem dL_law_163 : decode cL_law 163 = .ok (.iadd, 1) := by decide +kernel
theorem dL_law_164 : decode cL_law 164 = .ok (.iconst 1, 1) := by decide +kernel
theorem dL_law_165 : decode cL_law 165 = .ok (.iload 4, 2) := by decide +kernel
theorem dL_law_167 : decode cL_law 167 = .ok (.sipush 128, 3) := by decide +kernel
theorem dL_law_170 : decode cL_law 170 = .ok (.idiv, 1) := by decide +kernel
theorem dL_law_171 : decode cL_law 171 = .ok (.bipush 40, 2) := by decide +kernel
theorem dL_law_173 : decode cL_law 173 = .ok (.irem, 1) := by decide +kernel
theorem dL_law_174 : decode cL_law 174 = .ok (.iadd, 1) := by decide +kernel
theorem dL_law_175 : decode cL_law 175 = .ok (.iload 4, 2) := by decide +kernel
theorem dL_law_177 : decode cL_law 177 = .ok (.iconst 4, 1) := by decide +kernel
theorem dL_law_178 : decode cL_law 178 = .ok (.idiv, 1) := by decide +kernel
theorem dL_law_179 : decode cL_law 179 = .ok (.iconst 4, 1) := by decide +kernel
theorem dL_law_180 : decode cL_law 180 = .ok (.irem, 1) := by decide +kernel
theorem dL_law_181 : decode cL_law 181 = .ok (.iload 4, 2) := by decide +kernel
theorem dL_law_183 : decode cL_law 183 = .ok (.bipush 7, 2) := by decide +kernel
theorem dL_law_185 : decode cL_law 185 = .ok (.idiv, 1) := by decide +kernel
theorem dL_law_186 : decode cL_law 186 = .ok (.iconst 3, 1) := by decide +kernel
theorem dL_law_187 : decode cL_law 187 = .ok (.irem, 1) := by decide +kernel
theorem dL_law_188 : decode cL_law 188 = .ok (.invokevirtual 47, 3) := by decide +kernel
theorem dL_law_191 : decode cL_law 191 = .ok (.iload_n 3, 1) := by decide +kernel
theorem dL_law_192 : decode cL_law 192 = .ok (.if_icmp .ne 40, 3) := by decide +kernel
theorem dL_law_195 : decode cL_law 195 = .ok (.aload_n 1, 1) := by decide +kernel
theorem dL_law_196 : decode cL_law 196 = .ok (.iload_n 3, 1) := by decide +kernel
theorem dL_law_197 : decode cL_law 197 = .ok (.iconst 5, 1) := by decide +kernel
theorem dL_law_198 : decode cL_law 198 = .ok (.iload 4, 2) := by decide +kernel
theorem dL_law_200 : decode cL_law 200 = .ok (.bipush 11, 2) := by decide +kernel
theorem dL_law_202 : decode cL_law 202 = .ok (.idiv, 1) := by decide +kernel
theorem dL_law_203 : decode cL_law 203 = .ok (.iconst 3, 1) := by decide +kernel
theorem dL_law_204 : decode cL_law 204 = .ok (.irem, 1) := by decide +kernel
theorem dL_law_205 : decode cL_law 205 = .ok (.invokevirtual 51, 3) := by decide +kernel
theorem dL_law_208 : decode cL_law 208 = .ok (.ifCond .ne 24, 3) := by decide +kernel
theorem dL_law_211 : decode cL_law 211 = .ok (.aload_n 1, 1) := by decide +kernel
theorem dL_law_212 : decode cL_law 212 = .ok (.iload_n 3, 1) := by decide +kernel
theorem dL_law_213 : decode cL_law 213 = .ok (.bipush 6, 2) := by decide +kernel
theorem dL_law_215 : decode cL_law 215 = .ok (.iload 4, 2) := by decide +kernel
theorem dL_law_217 : decode cL_law 217 = .ok (.bipush 13, 2) := by decide +kernel
theorem dL_law_219 : decode cL_law 219 = .ok (.idiv, 1) := by decide +kernel
theorem dL_law_220 : decode cL_law 220 = .ok (.iconst 2, 1) := by decide +kernel
theorem dL_law_221 : decode cL_law 221 = .ok (.irem, 1) := by decide +kernel
theorem dL_law_222 : decode cL_law 222 = .ok (.invokevirtual 51, 3) := by decide +kernel
theorem dL_law_225 : decode cL_law 225 = .ok (.ifCond .ne 7, 3) := by decide +kernel
theorem dL_law_228 : decode cL_law 228 = .ok (.iconst 1, 1) := by decide +kernel
theorem dL_law_229 : decode cL_law 229 = .ok (.goto 4, 3) := by decide +kernel
theorem dL_law_232 : decode cL_law 232 = .ok (.iconst 0, 1) := by decide +kernel
theorem dL_law_233 : decode cL_law 233 = .ok (.istore_n 2, 1) := by decide +kernel
theorem dL_law_234 : decode cL_law 234 = .ok (.iinc 3 1, 3) := by decide +kernel
theorem dL_law_237 : decode cL_law 237 = .ok (.goto (-108), 3) := by decide +kernel
theorem dL_law_240 : decode cL_law 240 = .ok (.iconst 0, 1) := by decide +kernel
theorem dL_law_241 : decode cL_law 241 = .ok (.istore_n 3, 1) := by decide +kernel
theorem dL_law_242 : decode cL_law 242 = .ok (.iload_n 3, 1) := by decide +kernel
theorem dL_law_243 : decode cL_law 243 = .ok (.bipush 26, 2) := by decide +kernel
theorem dL_law_245 : decode cL_law 245 = .ok (.if_icmp .ge 735, 3) := by decide +kernel
theorem dL_law_248 : decode cL_law 248 = .ok (.iload_n 2, 1) := by decide +kernel
theorem dL_law_249 : decode cL_law 249 = .ok (.ifCond .eq 731, 3) := by decide +kernel
theorem dL_law_252 : decode cL_law 252 = .ok (.aload_n 0, 1) := by decide +kernel
theorem dL_law_253 : decode cL_law 253 = .ok (.bipush 16, 2) := by decide +kernel
theorem dL_law_255 : decode cL_law 255 = .ok (.iload_n 3, 1) := by decide +kernel
theorem dL_law_256 : decode cL_law 256 = .ok (.iadd, 1) := by decide +kernel
theorem dL_law_257 : decode cL_law 257 = .ok (.invokestatic 36, 3) := by decide +kernel
theorem dL_law_260 : decode cL_law 260 = .ok (.istore 4, 2) := by decide +kernel
theorem dL_law_262 : decode cL_law 262 = .ok (.iload 4, 2) := by decide +kernel
theorem dL_law_264 : decode cL_law 264 = .ok (.bipush 8, 2) := by decide +kernel
theorem dL_law_266 : decode cL_law 266 = .ok (.idiv, 1) := by decide +kernel
theorem dL_law_267 : decode cL_law 267 = .ok (.bipush 9, 2) := by decide +kernel
theorem dL_law_269 : decode cL_law 269 = .ok (.irem, 1) := by decide +kernel
theorem dL_law_270 : decode cL_law 270 = .ok (.istore 5, 2) := by decide +kernel
theorem dL_law_272 : decode cL_law 272 = .ok (.iload 4, 2) := by decide +kernel
theorem dL_law_274 : decode cL_law 274 = .ok (.bipush 8, 2) := by decide +kernel
theorem dL_law_276 : decode cL_law 276 = .ok (.irem, 1) := by decide +kernel
theorem dL_law_277 : decode cL_law 277 = .ok (.tableswitch 635 0 6 #[43, 43, 43, 119, 195, 282, 323], 43) := by decide +kernel
theorem dL_law_320 : decode cL_law 320 = .ok (.aload_n 1, 1) := by decide +kernel
theorem dL_law_321 : decode cL_law 321 = .ok (.iload 5, 2) := by decide +kernel
theorem dL_law_323 : decode cL_law 323 = .ok (.bipush 8, 2) := by decide +kernel
theorem dL_law_325 : decode cL_law 325 = .ok (.invokevirtual 15, 3) := by decide +kernel
theorem dL_law_328 : decode cL_law 328 = .ok (.iconst 1, 1) := by decide +kernel
theorem dL_law_329 : decode cL_law 329 = .ok (.if_icmp .ne 7, 3) := by decide +kernel
theorem dL_law_332 : decode cL_law 332 = .ok (.iconst 1, 1) := by decide +kernel
theorem dL_law_333 : decode cL_law 333 = .ok (.goto 4, 3) := by decide +kernel
theorem dL_law_336 : decode cL_law 336 = .ok (.iconst 0, 1) := by decide +kernel
theorem dL_law_337 : decode cL_law 337 = .ok (.istore 6, 2) := by decide +kernel
theorem dL_law_339 : decode cL_law 339 = .ok (.aload_n 1, 1) := by decide +kernel
theorem dL_law_340 : decode cL_law 340 = .ok (.iload 5, 2) := by decide +kernel
theorem dL_law_342 : decode cL_law 342 = .ok (.invokevirtual 54, 3) := by decide +kernel
theorem dL_law_345 : decode cL_law 345 = .ok (.istore 7, 2) := by decide +kernel
theorem dL_law_347 : decode cL_law 347 = .ok (.iload 6, 2) := by decide +kernel
theorem dL_law_349 : decode cL_law 349 = .ok (.ifCond .eq 30, 3) := by decide +kernel
theorem dL_law_352 : decode cL_law 352 = .ok (.iload 7, 2) := by decide +kernel
theorem dL_law_354 : decode cL_law 354 = .ok (.aload_n 1, 1) := by decide +kernel
theorem dL_law_355 : decode cL_law 355 = .ok (.iload 5, 2) := by decide +kernel
theorem dL_law_357 : decode cL_law 357 = .ok (.bipush 8, 2) := by decide +kernel
theorem dL_law_359 : decode cL_law 359 = .ok (.invokevirtual 15, 3) := by decide +kernel
theorem dL_law_362 : decode cL_law 362 = .ok (.if_icmp .ne 13, 3) := by decide +kernel
theorem dL_law_365 : decode cL_law 365 = .ok (.iload 7, 2) := by decide +kernel
theorem dL_law_367 : decode cL_law 367 = .ok (.iconst 1, 1) := by decide +kernel
theorem dL_law_368 : decode cL_law 368 = .ok (.if_icmp .eq 7, 3) := by decide +kernel
theorem dL_law_371 : decode cL_law 371 = .ok (.iconst 1, 1) := by decide +kernel
theorem dL_law_372 : decode cL_law 372 = .ok (.goto 20, 3) := by decide +kernel
theorem dL_law_375 : decode cL_law 375 = .ok (.iconst 0, 1) := by decide +kernel
theorem dL_law_376 : decode cL_law 376 = .ok (.goto 16, 3) := by decide +kernel
theorem dL_law_379 : decode cL_law 379 = .ok (.iload 7, 2) := by decide +kernel
theorem dL_law_381 : decode cL_law 381 = .ok (.sipush (-10002), 3) := by decide +kernel
theorem dL_law_384 : decode cL_law 384 = .ok (.if_icmp .ne 7, 3) := by decide +kernel
theorem dL_law_387 : decode cL_law 387 = .ok (.iconst 1, 1) := by decide +kernel
theorem dL_law_388 : decode cL_law 388 = .ok (.goto 4, 3) := by decide +kernel
theorem dL_law_391 : decode cL_law 391 = .ok (.iconst 0, 1) := by decide +kernel
theorem dL_law_392 : decode cL_law 392 = .ok (.istore_n 2, 1) := by decide +kernel
theorem dL_law_393 : decode cL_law 393 = .ok (.goto 564, 3) := by decide +kernel
theorem dL_law_396 : decode cL_law 396 = .ok (.aload_n 1, 1) := by decide +kernel
theorem dL_law_397 : decode cL_law 397 = .ok (.bipush 6, 2) := by decide +kernel
theorem dL_law_399 : decode cL_law 399 = .ok (.invokevirtual 9, 3) := by decide +kernel
theorem dL_law_402 : decode cL_law 402 = .ok (.istore 8, 2) := by decide +kernel
theorem dL_law_404 : decode cL_law 404 = .ok (.aload_n 1, 1) := by decide +kernel
theorem dL_law_405 : decode cL_law 405 = .ok (.iload 5, 2) := by decide +kernel
theorem dL_law_407 : decode cL_law 407 = .ok (.invokevirtual 57, 3) := by decide +kernel
theorem dL_law_410 : decode cL_law 410 = .ok (.istore 9, 2) := by decide +kernel
theorem dL_law_412 : decode cL_law 412 = .ok (.iload 9, 2) := by decide +kernel
theorem dL_law_414 : decode cL_law 414 = .ok (.sipush (-10002), 3) := by decide +kernel
theorem dL_law_417 : decode cL_law 417 = .ok (.if_icmp .ne 22, 3) := by decide +kernel
theorem dL_law_420 : decode cL_law 420 = .ok (.aload_n 1, 1) := by decide +kernel
theorem dL_law_421 : decode cL_law 421 = .ok (.bipush 6, 2) := by decide +kernel
theorem dL_law_423 : decode cL_law 423 = .ok (.invokevirtual 9, 3) := by decide +kernel
theorem dL_law_426 : decode cL_law 426 = .ok (.iload 8, 2) := by decide +kernel
theorem dL_law_428 : decode cL_law 428 = .ok (.if_icmp .ne 7, 3) := by decide +kernel
theorem dL_law_431 : decode cL_law 431 = .ok (.iconst 1, 1) := by decide +kernel
theorem dL_law_432 : decode cL_law 432 = .ok (.goto 36, 3) := by decide +kernel
theorem dL_law_435 : decode cL_law 435 = .ok (.iconst 0, 1) := by decide +kernel
theorem dL_law_436 : decode cL_law 436 = .ok (.goto 32, 3) := by decide +kernel
theorem dL_law_439 : decode cL_law 439 = .ok (.aload_n 1, 1) := by decide +kernel
theorem dL_law_440 : decode cL_law 440 = .ok (.bipush 6, 2) := by decide +kernel
theorem dL_law_442 : decode cL_law 442 = .ok (.invokevirtual 9, 3) := by decide +kernel
theorem dL_law_445 : decode cL_law 445 = .ok (.iload 8, 2) := by decide +kernel
theorem dL_law_447 : decode cL_law 447 = .ok (.iconst 1, 1) := by decide +kernel
theorem dL_law_448 : decode cL_law 448 = .ok (.isub, 1) := by decide +kernel
theorem dL_law_449 : decode cL_law 449 = .ok (.if_icmp .ne 18, 3) := by decide +kernel
theorem dL_law_452 : decode cL_law 452 = .ok (.aload_n 1, 1) := by decide +kernel
theorem dL_law_453 : decode cL_law 453 = .ok (.bipush 7, 2) := by decide +kernel
theorem dL_law_455 : decode cL_law 455 = .ok (.invokevirtual 9, 3) := by decide +kernel
theorem dL_law_458 : decode cL_law 458 = .ok (.iload 9, 2) := by decide +kernel
theorem dL_law_460 : decode cL_law 460 = .ok (.if_icmp .ne 7, 3) := by decide +kernel
theorem dL_law_463 : decode cL_law 463 = .ok (.iconst 1, 1) := by decide +kernel
theorem dL_law_464 : decode cL_law 464 = .ok (.goto 4, 3) := by decide +kernel
theorem dL_law_467 : decode cL_law 467 = .ok (.iconst 0, 1) := by decide +kernel
theorem dL_law_468 : decode cL_law 468 = .ok (.istore_n 2, 1) := by decide +kernel
theorem dL_law_469 : decode cL_law 469 = .ok (.goto 488, 3) := by decide +kernel
theorem dL_law_472 : decode cL_law 472 = .ok (.aload_n 1, 1) := by decide +kernel
theorem dL_law_473 : decode cL_law 473 = .ok (.invokevirtual 60, 3) := by decide +kernel
theorem dL_law_476 : decode cL_law 476 = .ok (.istore 10, 2) := by decide +kernel
theorem dL_law_478 : decode cL_law 478 = .ok (.iload 10, 2) := by decide +kernel
theorem dL_law_480 : decode cL_law 480 = .ok (.ifCond .lt 18, 3) := by decide +kernel
theorem dL_law_483 : decode cL_law 483 = .ok (.iload 10, 2) := by decide +kernel
theorem dL_law_485 : decode cL_law 485 = .ok (.aload_n 1, 1) := by decide +kernel
theorem dL_law_486 : decode cL_law 486 = .ok (.bipush 7, 2) := by decide +kernel
theorem dL_law_488 : decode cL_law 488 = .ok (.invokevirtual 9, 3) := by decide +kernel
theorem dL_law_491 : decode cL_law 491 = .ok (.if_icmp .gt 7, 3) := by decide +kernel
theorem dL_law_494 : decode cL_law 494 = .ok (.iconst 1, 1) := by decide +kernel
theorem dL_law_495 : decode cL_law 495 = .ok (.goto 4, 3) := by decide +kernel
theorem dL_law_498 : decode cL_law 498 = .ok (.iconst 0, 1) := by decide +kernel
theorem dL_law_499 : decode cL_law 499 = .ok (.istore_n 2, 1) := by decide +kernel
theorem dL_law_500 : decode cL_law 500 = .ok (.iconst 0, 1) := by decide +kernel
theorem dL_law_501 : decode cL_law 501 = .ok (.istore 11, 2) := by decide +kernel
theorem dL_law_503 : decode cL_law 503 = .ok (.iload 11, 2) := by decide +kernel
theorem dL_law_505 : decode cL_law 505 = .ok (.bipush 9, 2) := by decide +kernel
theorem dL_law_507 : decode cL_law 507 = .ok (.if_icmp .ge 49, 3) := by decide +kernel
theorem dL_law_510 : decode cL_law 510 = .ok (.iload_n 2, 1) := by decide +kernel
theorem dL_law_511 : decode cL_law 511 = .ok (.ifCond .eq 45, 3) := by decide +kernel
theorem dL_law_514 : decode cL_law 514 = .ok (.aload_n 1, 1) := by decide +kernel
theorem dL_law_515 : decode cL_law 515 = .ok (.iload 11, 2) := by decide +kernel
theorem dL_law_517 : decode cL_law 517 = .ok (.bipush 8, 2) := by decide +kernel
theorem dL_law_519 : decode cL_law 519 = .ok (.invokevirtual 15, 3) := by decide +kernel
theorem dL_law_522 : decode cL_law 522 = .ok (.ifCond .gt 22, 3) := by decide +kernel
theorem dL_law_525 : decode cL_law 525 = .ok (.aload_n 1, 1) := by decide +kernel
theorem dL_law_526 : decode cL_law 526 = .ok (.iload 11, 2) := by decide +kernel
theorem dL_law_528 : decode cL_law 528 = .ok (.bipush 15, 2) := by decide +kernel
theorem dL_law_530 : decode cL_law 530 = .ok (.invokevirtual 15, 3) := by decide +kernel
theorem dL_law_533 : decode cL_law 533 = .ok (.aload_n 1, 1) := by decide +kernel
theorem dL_law_534 : decode cL_law 534 = .ok (.iload 11, 2) := by decide +kernel
theorem dL_law_536 : decode cL_law 536 = .ok (.bipush 9, 2) := by decide +kernel
theorem dL_law_538 : decode cL_law 538 = .ok (.invokevirtual 15, 3) := by decide +kernel
theorem dL_law_541 : decode cL_law 541 = .ok (.if_icmp .ne 7, 3) := by decide +kernel
theorem dL_law_544 : decode cL_law 544 = .ok (.iconst 1, 1) := by decide +kernel
theorem dL_law_545 : decode cL_law 545 = .ok (.goto 4, 3) := by decide +kernel
theorem dL_law_548 : decode cL_law 548 = .ok (.iconst 0, 1) := by decide +kernel
theorem dL_law_549 : decode cL_law 549 = .ok (.istore_n 2, 1) := by decide +kernel
theorem dL_law_550 : decode cL_law 550 = .ok (.iinc 11 1, 3) := by decide +kernel
theorem dL_law_553 : decode cL_law 553 = .ok (.goto (-50), 3) := by decide +kernel
theorem dL_law_556 : decode cL_law 556 = .ok (.goto 401, 3) := by decide +kernel
theorem dL_law_559 : decode cL_law 559 = .ok (.aload_n 1, 1) := by decide +kernel
theorem dL_law_560 : decode cL_law 560 = .ok (.iload 5, 2) := by decide +kernel
theorem dL_law_562 : decode cL_law 562 = .ok (.bipush 7, 2) := by decide +kernel
theorem dL_law_564 : decode cL_law 564 = .ok (.invokevirtual 15, 3) := by decide +kernel
theorem dL_law_567 : decode cL_law 567 = .ok (.istore 11, 2) := by decide +kernel
theorem dL_law_569 : decode cL_law 569 = .ok (.aload_n 1, 1) := by decide +kernel
theorem dL_law_570 : decode cL_law 570 = .ok (.iload 5, 2) := by decide +kernel
theorem dL_law_572 : decode cL_law 572 = .ok (.bipush 7, 2) := by decide +kernel
theorem dL_law_574 : decode cL_law 574 = .ok (.iload 4, 2) := by decide +kernel
theorem dL_law_576 : decode cL_law 576 = .ok (.sipush 128, 3) := by decide +kernel
theorem dL_law_579 : decode cL_law 579 = .ok (.idiv, 1) := by decide +kernel
theorem dL_law_580 : decode cL_law 580 = .ok (.bipush 10, 2) := by decide +kernel
theorem dL_law_582 : decode cL_law 582 = .ok (.irem, 1) := by decide +kernel
theorem dL_law_583 : decode cL_law 583 = .ok (.invokevirtual 51, 3) := by decide +kernel
theorem dL_law_586 : decode cL_law 586 = .ok (.iload 11, 2) := by decide +kernel
theorem dL_law_588 : decode cL_law 588 = .ok (.if_icmp .ne 7, 3) := by decide +kernel
theorem dL_law_591 : decode cL_law 591 = .ok (.iconst 1, 1) := by decide +kernel
theorem dL_law_592 : decode cL_law 592 = .ok (.goto 4, 3) := by decide +kernel
theorem dL_law_595 : decode cL_law 595 = .ok (.iconst 0, 1) := by decide +kernel
theorem dL_law_596 : decode cL_law 596 = .ok (.istore_n 2, 1) := by decide +kernel
theorem dL_law_597 : decode cL_law 597 = .ok (.goto 360, 3) := by decide +kernel
theorem dL_law_600 : decode cL_law 600 = .ok (.iconst 0, 1) := by decide +kernel
theorem dL_law_601 : decode cL_law 601 = .ok (.istore 12, 2) := by decide +kernel
theorem dL_law_603 : decode cL_law 603 = .ok (.iconst 0, 1) := by decide +kernel
theorem dL_law_604 : decode cL_law 604 = .ok (.istore 13, 2) := by decide +kernel
theorem dL_law_606 : decode cL_law 606 = .ok (.iload 13, 2) := by decide +kernel
theorem dL_law_608 : decode cL_law 608 = .ok (.bipush 9, 2) := by decide +kernel
theorem dL_law_610 : decode cL_law 610 = .ok (.if_icmp .ge 49, 3) := by decide +kernel
theorem dL_law_613 : decode cL_law 613 = .ok (.bipush 7, 2) := by decide +kernel
theorem dL_law_615 : decode cL_law 615 = .ok (.iload 12, 2) := by decide +kernel
theorem dL_law_617 : decode cL_law 617 = .ok (.imul, 1) := by decide +kernel
theorem dL_law_618 : decode cL_law 618 = .ok (.aload_n 1, 1) := by decide +kernel
theorem dL_law_619 : decode cL_law 619 = .ok (.iload 13, 2) := by decide +kernel
theorem dL_law_621 : decode cL_law 621 = .ok (.bipush 8, 2) := by decide +kernel
theorem dL_law_623 : decode cL_law 623 = .ok (.invokevirtual 15, 3) := by decide +kernel
theorem dL_law_626 : decode cL_law 626 = .ok (.iadd, 1) := by decide +kernel
theorem dL_law_627 : decode cL_law 627 = .ok (.aload_n 1, 1) := by decide +kernel
theorem dL_law_628 : decode cL_law 628 = .ok (.iload 13, 2) := by decide +kernel
theorem dL_law_630 : decode cL_law 630 = .ok (.bipush 9, 2) := by decide +kernel
theorem dL_law_632 : decode cL_law 632 = .ok (.invokevirtual 15, 3) := by decide +kernel
theorem dL_law_635 : decode cL_law 635 = .ok (.ifCond .ge 7, 3) := by decide +kernel
theorem dL_law_638 : decode cL_law 638 = .ok (.iconst 0, 1) := by decide +kernel
theorem dL_law_639 : decode cL_law 639 = .ok (.goto 11, 3) := by decide +kernel
theorem dL_law_642 : decode cL_law 642 = .ok (.aload_n 1, 1) := by decide +kernel
theorem dL_law_643 : decode cL_law 643 = .ok (.iload 13, 2) := by decide +kernel
theorem dL_law_645 : decode cL_law 645 = .ok (.bipush 9, 2) := by decide +kernel
theorem dL_law_647 : decode cL_law 647 = .ok (.invokevirtual 15, 3) := by decide +kernel
theorem dL_law_650 : decode cL_law 650 = .ok (.iadd, 1) := by decide +kernel
theorem dL_law_651 : decode cL_law 651 = .ok (.istore 12, 2) := by decide +kernel
theorem dL_law_653 : decode cL_law 653 = .ok (.iinc 13 1, 3) := by decide +kernel
theorem dL_law_656 : decode cL_law 656 = .ok (.goto (-50), 3) := by decide +kernel
theorem dL_law_659 : decode cL_law 659 = .ok (.iload 4, 2) := by decide +kernel
theorem dL_law_661 : decode cL_law 661 = .ok (.sipush 128, 3) := by decide +kernel
theorem dL_law_664 : decode cL_law 664 = .ok (.idiv, 1) := by decide +kernel
theorem dL_law_665 : decode cL_law 665 = .ok (.bipush 101, 2) := by decide +kernel
theorem dL_law_667 : decode cL_law 667 = .ok (.irem, 1) := by decide +kernel
theorem dL_law_668 : decode cL_law 668 = .ok (.bipush 50, 2) := by decide +kernel
theorem dL_law_670 : decode cL_law 670 = .ok (.isub, 1) := by decide +kernel
theorem dL_law_671 : decode cL_law 671 = .ok (.istore 13, 2) := by decide +kernel
theorem dL_law_673 : decode cL_law 673 = .ok (.iload 4, 2) := by decide +kernel
theorem dL_law_675 : decode cL_law 675 = .ok (.sipush 16384, 3) := by decide +kernel
theorem dL_law_678 : decode cL_law 678 = .ok (.idiv, 1) := by decide +kernel
theorem dL_law_679 : decode cL_law 679 = .ok (.bipush 101, 2) := by decide +kernel
theorem dL_law_681 : decode cL_law 681 = .ok (.irem, 1) := by decide +kernel
theorem dL_law_682 : decode cL_law 682 = .ok (.bipush 50, 2) := by decide +kernel
theorem dL_law_684 : decode cL_law 684 = .ok (.isub, 1) := by decide +kernel
theorem dL_law_685 : decode cL_law 685 = .ok (.istore 14, 2) := by decide +kernel
theorem dL_law_687 : decode cL_law 687 = .ok (.aload_n 1, 1) := by decide +kernel
theorem dL_law_688 : decode cL_law 688 = .ok (.iconst 0, 1) := by decide +kernel
theorem dL_law_689 : decode cL_law 689 = .ok (.invokevirtual 9, 3) := by decide +kernel
theorem dL_law_692 : decode cL_law 692 = .ok (.iload 13, 2) := by decide +kernel
theorem dL_law_694 : decode cL_law 694 = .ok (.iadd, 1) := by decide +kernel
theorem dL_law_695 : decode cL_law 695 = .ok (.sipush (-700), 3) := by decide +kernel
theorem dL_law_698 : decode cL_law 698 = .ok (.if_icmp .le 49, 3) := by decide +kernel
theorem dL_law_701 : decode cL_law 701 = .ok (.aload_n 1, 1) := by decide +kernel
theorem dL_law_702 : decode cL_law 702 = .ok (.iconst 0, 1) := by decide +kernel
theorem dL_law_703 : decode cL_law 703 = .ok (.invokevirtual 9, 3) := by decide +kernel
theorem dL_law_706 : decode cL_law 706 = .ok (.iload 13, 2) := by decide +kernel
theorem dL_law_708 : decode cL_law 708 = .ok (.iadd, 1) := by decide +kernel
theorem dL_law_709 : decode cL_law 709 = .ok (.sipush 700, 3) := by decide +kernel
theorem dL_law_712 : decode cL_law 712 = .ok (.if_icmp .ge 35, 3) := by decide +kernel
theorem dL_law_715 : decode cL_law 715 = .ok (.aload_n 1, 1) := by decide +kernel
theorem dL_law_716 : decode cL_law 716 = .ok (.iconst 1, 1) := by decide +kernel
theorem dL_law_717 : decode cL_law 717 = .ok (.invokevirtual 9, 3) := by decide +kernel
theorem dL_law_720 : decode cL_law 720 = .ok (.iload 14, 2) := by decide +kernel
theorem dL_law_722 : decode cL_law 722 = .ok (.iadd, 1) := by decide +kernel
theorem dL_law_723 : decode cL_law 723 = .ok (.sipush (-700), 3) := by decide +kernel
theorem dL_law_726 : decode cL_law 726 = .ok (.if_icmp .le 21, 3) := by decide +kernel
theorem dL_law_729 : decode cL_law 729 = .ok (.aload_n 1, 1) := by decide +kernel
theorem dL_law_730 : decode cL_law 730 = .ok (.iconst 1, 1) := by decide +kernel
theorem dL_law_731 : decode cL_law 731 = .ok (.invokevirtual 9, 3) := by decide +kernel
theorem dL_law_734 : decode cL_law 734 = .ok (.iload 14, 2) := by decide +kernel
theorem dL_law_736 : decode cL_law 736 = .ok (.iadd, 1) := by decide +kernel
theorem dL_law_737 : decode cL_law 737 = .ok (.sipush 700, 3) := by decide +kernel
theorem dL_law_740 : decode cL_law 740 = .ok (.if_icmp .ge 7, 3) := by decide +kernel
theorem dL_law_743 : decode cL_law 743 = .ok (.iconst 1, 1) := by decide +kernel
theorem dL_law_744 : decode cL_law 744 = .ok (.goto 4, 3) := by decide +kernel
theorem dL_law_747 : decode cL_law 747 = .ok (.iconst 0, 1) := by decide +kernel
theorem dL_law_748 : decode cL_law 748 = .ok (.istore 15, 2) := by decide +kernel
theorem dL_law_750 : decode cL_law 750 = .ok (.iload 15, 2) := by decide +kernel
theorem dL_law_752 : decode cL_law 752 = .ok (.ifCond .eq 14, 3) := by decide +kernel
theorem dL_law_755 : decode cL_law 755 = .ok (.aload_n 1, 1) := by decide +kernel
theorem dL_law_756 : decode cL_law 756 = .ok (.iload 13, 2) := by decide +kernel
theorem dL_law_758 : decode cL_law 758 = .ok (.iload 14, 2) := by decide +kernel
theorem dL_law_760 : decode cL_law 760 = .ok (.invokevirtual 64, 3) := by decide +kernel
theorem dL_law_763 : decode cL_law 763 = .ok (.goto 4, 3) := by decide +kernel
theorem dL_law_766 : decode cL_law 766 = .ok (.iconst (-1), 1) := by decide +kernel
theorem dL_law_767 : decode cL_law 767 = .ok (.istore 16, 2) := by decide +kernel
theorem dL_law_769 : decode cL_law 769 = .ok (.iconst 0, 1) := by decide +kernel
theorem dL_law_770 : decode cL_law 770 = .ok (.istore 17, 2) := by decide +kernel
theorem dL_law_772 : decode cL_law 772 = .ok (.iload 17, 2) := by decide +kernel
theorem dL_law_774 : decode cL_law 774 = .ok (.iconst 5, 1) := by decide +kernel
theorem dL_law_775 : decode cL_law 775 = .ok (.if_icmp .ge 53, 3) := by decide +kernel
theorem dL_law_778 : decode cL_law 778 = .ok (.iload_n 2, 1) := by decide +kernel
theorem dL_law_779 : decode cL_law 779 = .ok (.ifCond .eq 49, 3) := by decide +kernel
theorem dL_law_782 : decode cL_law 782 = .ok (.iload 16, 2) := by decide +kernel
theorem dL_law_784 : decode cL_law 784 = .ok (.ifCond .lt 44, 3) := by decide +kernel
theorem dL_law_787 : decode cL_law 787 = .ok (.aload_n 1, 1) := by decide +kernel
theorem dL_law_788 : decode cL_law 788 = .ok (.iload 17, 2) := by decide +kernel
theorem dL_law_790 : decode cL_law 790 = .ok (.aload_n 1, 1) := by decide +kernel
theorem dL_law_791 : decode cL_law 791 = .ok (.iload 17, 2) := by decide +kernel
theorem dL_law_793 : decode cL_law 793 = .ok (.iconst 0, 1) := by decide +kernel
theorem dL_law_794 : decode cL_law 794 = .ok (.invokevirtual 19, 3) := by decide +kernel
theorem dL_law_797 : decode cL_law 797 = .ok (.iload 13, 2) := by decide +kernel
theorem dL_law_799 : decode cL_law 799 = .ok (.iadd, 1) := by decide +kernel
theorem dL_law_800 : decode cL_law 800 = .ok (.aload_n 1, 1) := by decide +kernel
theorem dL_law_801 : decode cL_law 801 = .ok (.iload 17, 2) := by decide +kernel
theorem dL_law_803 : decode cL_law 803 = .ok (.iconst 1, 1) := by decide +kernel
theorem dL_law_804 : decode cL_law 804 = .ok (.invokevirtual 19, 3) := by decide +kernel
theorem dL_law_807 : decode cL_law 807 = .ok (.iload 14, 2) := by decide +kernel
theorem dL_law_809 : decode cL_law 809 = .ok (.iadd, 1) := by decide +kernel
theorem dL_law_810 : decode cL_law 810 = .ok (.invokevirtual 67, 3) := by decide +kernel
theorem dL_law_813 : decode cL_law 813 = .ok (.ifCond .lt 7, 3) := by decide +kernel
theorem dL_law_816 : decode cL_law 816 = .ok (.iconst 1, 1) := by decide +kernel
theorem dL_law_817 : decode cL_law 817 = .ok (.goto 4, 3) := by decide +kernel
theorem dL_law_820 : decode cL_law 820 = .ok (.iconst 0, 1) := by decide +kernel
theorem dL_law_821 : decode cL_law 821 = .ok (.istore_n 2, 1) := by decide +kernel
theorem dL_law_822 : decode cL_law 822 = .ok (.iinc 17 1, 3) := by decide +kernel
theorem dL_law_825 : decode cL_law 825 = .ok (.goto (-53), 3) := by decide +kernel
theorem dL_law_828 : decode cL_law 828 = .ok (.iconst 0, 1) := by decide +kernel
theorem dL_law_829 : decode cL_law 829 = .ok (.istore 17, 2) := by decide +kernel
theorem dL_law_831 : decode cL_law 831 = .ok (.iconst 0, 1) := by decide +kernel
theorem dL_law_832 : decode cL_law 832 = .ok (.istore 18, 2) := by decide +kernel
theorem dL_law_834 : decode cL_law 834 = .ok (.iload 18, 2) := by decide +kernel
theorem dL_law_836 : decode cL_law 836 = .ok (.bipush 9, 2) := by decide +kernel
theorem dL_law_838 : decode cL_law 838 = .ok (.if_icmp .ge 49, 3) := by decide +kernel
theorem dL_law_841 : decode cL_law 841 = .ok (.bipush 7, 2) := by decide +kernel
theorem dL_law_843 : decode cL_law 843 = .ok (.iload 17, 2) := by decide +kernel
theorem dL_law_845 : decode cL_law 845 = .ok (.imul, 1) := by decide +kernel
theorem dL_law_846 : decode cL_law 846 = .ok (.aload_n 1, 1) := by decide +kernel
theorem dL_law_847 : decode cL_law 847 = .ok (.iload 18, 2) := by decide +kernel
theorem dL_law_849 : decode cL_law 849 = .ok (.bipush 8, 2) := by decide +kernel
theorem dL_law_851 : decode cL_law 851 = .ok (.invokevirtual 15, 3) := by decide +kernel
theorem dL_law_854 : decode cL_law 854 = .ok (.iadd, 1) := by decide +kernel
theorem dL_law_855 : decode cL_law 855 = .ok (.aload_n 1, 1) := by decide +kernel
theorem dL_law_856 : decode cL_law 856 = .ok (.iload 18, 2) := by decide +kernel
theorem dL_law_858 : decode cL_law 858 = .ok (.bipush 9, 2) := by decide +kernel
theorem dL_law_860 : decode cL_law 860 = .ok (.invokevirtual 15, 3) := by decide +kernel
theorem dL_law_863 : decode cL_law 863 = .ok (.ifCond .ge 7, 3) := by decide +kernel
theorem dL_law_866 : decode cL_law 866 = .ok (.iconst 0, 1) := by decide +kernel
theorem dL_law_867 : decode cL_law 867 = .ok (.goto 11, 3) := by decide +kernel
theorem dL_law_870 : decode cL_law 870 = .ok (.aload_n 1, 1) := by decide +kernel
theorem dL_law_871 : decode cL_law 871 = .ok (.iload 18, 2) := by decide +kernel
theorem dL_law_873 : decode cL_law 873 = .ok (.bipush 9, 2) := by decide +kernel
theorem dL_law_875 : decode cL_law 875 = .ok (.invokevirtual 15, 3) := by decide +kernel
theorem dL_law_878 : decode cL_law 878 = .ok (.iadd, 1) := by decide +kernel
theorem dL_law_879 : decode cL_law 879 = .ok (.istore 17, 2) := by decide +kernel
theorem dL_law_881 : decode cL_law 881 = .ok (.iinc 18 1, 3) := by decide +kernel
theorem dL_law_884 : decode cL_law 884 = .ok (.goto (-50), 3) := by decide +kernel
theorem dL_law_887 : decode cL_law 887 = .ok (.iload_n 2, 1) := by decide +kernel
theorem dL_law_888 : decode cL_law 888 = .ok (.ifCond .eq 19, 3) := by decide +kernel
theorem dL_law_891 : decode cL_law 891 = .ok (.iload 16, 2) := by decide +kernel
theorem dL_law_893 : decode cL_law 893 = .ok (.ifCond .lt 10, 3) := by decide +kernel
theorem dL_law_896 : decode cL_law 896 = .ok (.iload 17, 2) := by decide +kernel
theorem dL_law_898 : decode cL_law 898 = .ok (.iload 12, 2) := by decide +kernel
theorem dL_law_900 : decode cL_law 900 = .ok (.if_icmp .ne 7, 3) := by decide +kernel
theorem dL_law_903 : decode cL_law 903 = .ok (.iconst 1, 1) := by decide +kernel
theorem dL_law_904 : decode cL_law 904 = .ok (.goto 4, 3) := by decide +kernel
theorem dL_law_907 : decode cL_law 907 = .ok (.iconst 0, 1) := by decide +kernel
theorem dL_law_908 : decode cL_law 908 = .ok (.istore_n 2, 1) := by decide +kernel
theorem dL_law_909 : decode cL_law 909 = .ok (.goto 48, 3) := by decide +kernel
theorem dL_law_912 : decode cL_law 912 = .ok (.aload_n 1, 1) := by decide +kernel
theorem dL_law_913 : decode cL_law 913 = .ok (.iload 5, 2) := by decide +kernel
theorem dL_law_915 : decode cL_law 915 = .ok (.iload 4, 2) := by decide +kernel
theorem dL_law_917 : decode cL_law 917 = .ok (.sipush 128, 3) := by decide +kernel
theorem dL_law_920 : decode cL_law 920 = .ok (.idiv, 1) := by decide +kernel
theorem dL_law_921 : decode cL_law 921 = .ok (.iconst 2, 1) := by decide +kernel
theorem dL_law_922 : decode cL_law 922 = .ok (.irem, 1) := by decide +kernel
theorem dL_law_923 : decode cL_law 923 = .ok (.invokevirtual 70, 3) := by decide +kernel
theorem dL_law_926 : decode cL_law 926 = .ok (.istore 18, 2) := by decide +kernel
theorem dL_law_928 : decode cL_law 928 = .ok (.iload 18, 2) := by decide +kernel
theorem dL_law_930 : decode cL_law 930 = .ok (.sipush (-10004), 3) := by decide +kernel
theorem dL_law_933 : decode cL_law 933 = .ok (.if_icmp .eq 18, 3) := by decide +kernel
theorem dL_law_936 : decode cL_law 936 = .ok (.iload 18, 2) := by decide +kernel
theorem dL_law_938 : decode cL_law 938 = .ok (.bipush 20, 2) := by decide +kernel
theorem dL_law_940 : decode cL_law 940 = .ok (.if_icmp .lt 15, 3) := by decide +kernel
theorem dL_law_943 : decode cL_law 943 = .ok (.iload 18, 2) := by decide +kernel
theorem dL_law_945 : decode cL_law 945 = .ok (.sipush 400, 3) := by decide +kernel
theorem dL_law_948 : decode cL_law 948 = .ok (.if_icmp .gt 7, 3) := by decide +kernel
theorem dL_law_951 : decode cL_law 951 = .ok (.iconst 1, 1) := by decide +kernel
theorem dL_law_952 : decode cL_law 952 = .ok (.goto 4, 3) := by decide +kernel
theorem dL_law_955 : decode cL_law 955 = .ok (.iconst 0, 1) := by decide +kernel
theorem dL_law_956 : decode cL_law 956 = .ok (.istore_n 2, 1) := by decide +kernel
theorem dL_law_957 : decode cL_law 957 = .ok (.iload_n 2, 1) := by decide +kernel
theorem dL_law_958 : decode cL_law 958 = .ok (.ifCond .eq 14, 3) := by decide +kernel
theorem dL_law_961 : decode cL_law 961 = .ok (.aload_n 1, 1) := by decide +kernel
theorem dL_law_962 : decode cL_law 962 = .ok (.invokestatic 30, 3) := by decide +kernel
theorem dL_law_965 : decode cL_law 965 = .ok (.ifCond .eq 7, 3) := by decide +kernel
theorem dL_law_968 : decode cL_law 968 = .ok (.iconst 1, 1) := by decide +kernel
theorem dL_law_969 : decode cL_law 969 = .ok (.goto 4, 3) := by decide +kernel
theorem dL_law_972 : decode cL_law 972 = .ok (.iconst 0, 1) := by decide +kernel
theorem dL_law_973 : decode cL_law 973 = .ok (.istore_n 2, 1) := by decide +kernel
theorem dL_law_974 : decode cL_law 974 = .ok (.iinc 3 1, 3) := by decide +kernel
theorem dL_law_977 : decode cL_law 977 = .ok (.goto (-735), 3) := by decide +kernel
theorem dL_law_980 : decode cL_law 980 = .ok (.iload_n 2, 1) := by decide +kernel
theorem dL_law_981 : decode cL_law 981 = .ok (.ifCond .eq 38, 3) := by decide +kernel
theorem dL_law_984 : decode cL_law 984 = .ok (.aload_n 1, 1) := by decide +kernel
theorem dL_law_985 : decode cL_law 985 = .ok (.iconst 0, 1) := by decide +kernel
theorem dL_law_986 : decode cL_law 986 = .ok (.bipush 8, 2) := by decide +kernel
theorem dL_law_988 : decode cL_law 988 = .ok (.invokevirtual 15, 3) := by decide +kernel
theorem dL_law_991 : decode cL_law 991 = .ok (.iconst 1, 1) := by decide +kernel
theorem dL_law_992 : decode cL_law 992 = .ok (.if_icmp .ne 11, 3) := by decide +kernel
theorem dL_law_995 : decode cL_law 995 = .ok (.aload_n 1, 1) := by decide +kernel
theorem dL_law_996 : decode cL_law 996 = .ok (.iconst 0, 1) := by decide +kernel
theorem dL_law_997 : decode cL_law 997 = .ok (.invokevirtual 54, 3) := by decide +kernel
theorem dL_law_1000 : decode cL_law 1000 = .ok (.ifCond .lt 19, 3) := by decide +kernel
theorem dL_law_1003 : decode cL_law 1003 = .ok (.aload_n 1, 1) := by decide +kernel
theorem dL_law_1004 : decode cL_law 1004 = .ok (.iconst 0, 1) := by decide +kernel
theorem dL_law_1005 : decode cL_law 1005 = .ok (.bipush 7, 2) := by decide +kernel
theorem dL_law_1007 : decode cL_law 1007 = .ok (.bipush 9, 2) := by decide +kernel
theorem dL_law_1009 : decode cL_law 1009 = .ok (.invokevirtual 51, 3) := by decide +kernel
theorem dL_law_1012 : decode cL_law 1012 = .ok (.ifCond .lt 7, 3) := by decide +kernel
theorem dL_law_1015 : decode cL_law 1015 = .ok (.iconst 1, 1) := by decide +kernel
theorem dL_law_1016 : decode cL_law 1016 = .ok (.goto 4, 3) := by decide +kernel
theorem dL_law_1019 : decode cL_law 1019 = .ok (.iconst 0, 1) := by decide +kernel
theorem dL_law_1020 : decode cL_law 1020 = .ok (.istore_n 2, 1) := by decide +kernel
theorem dL_law_1021 : decode cL_law 1021 = .ok (.aload_n 1, 1) := by decide +kernel
theorem dL_law_1022 : decode cL_law 1022 = .ok (.bipush 9, 2) := by decide +kernel
theorem dL_law_1024 : decode cL_law 1024 = .ok (.invokevirtual 9, 3) := by decide +kernel
theorem dL_law_1027 : decode cL_law 1027 = .ok (.istore_n 3, 1) := by decide +kernel
theorem dL_law_1028 : decode cL_law 1028 = .ok (.iload_n 2, 1) := by decide +kernel
theorem dL_law_1029 : decode cL_law 1029 = .ok (.ifCond .eq 35, 3) := by decide +kernel
theorem dL_law_1032 : decode cL_law 1032 = .ok (.aload_n 1, 1) := by decide +kernel
theorem dL_law_1033 : decode cL_law 1033 = .ok (.invokestatic 30, 3) := by decide +kernel
theorem dL_law_1036 : decode cL_law 1036 = .ok (.ifCond .eq 28, 3) := by decide +kernel
theorem dL_law_1039 : decode cL_law 1039 = .ok (.iload_n 3, 1) := by decide +kernel
theorem dL_law_1040 : decode cL_law 1040 = .ok (.ifCond .le 24, 3) := by decide +kernel
theorem dL_law_1043 : decode cL_law 1043 = .ok (.aload_n 1, 1) := by decide +kernel
theorem dL_law_1044 : decode cL_law 1044 = .ok (.invokevirtual 73, 3) := by decide +kernel
theorem dL_law_1047 : decode cL_law 1047 = .ok (.iload_n 3, 1) := by decide +kernel
theorem dL_law_1048 : decode cL_law 1048 = .ok (.iconst 1, 1) := by decide +kernel
theorem dL_law_1049 : decode cL_law 1049 = .ok (.isub, 1) := by decide +kernel
theorem dL_law_1050 : decode cL_law 1050 = .ok (.if_icmp .ne 14, 3) := by decide +kernel
theorem dL_law_1053 : decode cL_law 1053 = .ok (.aload_n 1, 1) := by decide +kernel
theorem dL_law_1054 : decode cL_law 1054 = .ok (.invokestatic 30, 3) := by decide +kernel
theorem dL_law_1057 : decode cL_law 1057 = .ok (.ifCond .eq 7, 3) := by decide +kernel
theorem dL_law_1060 : decode cL_law 1060 = .ok (.iconst 1, 1) := by decide +kernel
theorem dL_law_1061 : decode cL_law 1061 = .ok (.goto 4, 3) := by decide +kernel
theorem dL_law_1064 : decode cL_law 1064 = .ok (.iconst 0, 1) := by decide +kernel
theorem dL_law_1065 : decode cL_law 1065 = .ok (.ireturn, 1) := by decide +kernel
