/-! THE LAW: its 22 cases -/
section LAWC
variable {p : Program} {l : Launch} {e : Env} {s : State} {m : MethodId} {below : List Frame} {meth : Method} {c : Code} {b L : Nat} {xs : Nat → Int32} {D : va_G} {g : Nat → ClassId} {ad1 ad2 : Nat → Nat} {i B : Nat} {h1 h2 : List mC}
theorem l_k_view (X : lX p s m meth c b L xs D g ad1 ad2) (hI : INV h1 h2 B) (hB : B < 2 ^ 28) (hi : i + 5 < L) (kk : ∀ k1 k2 : List mC, INV k1 k2 (B + 30) → lJ p l e s m below meth c b D g ad1 ad2 812 i [] k1 k2) : lJ p l e s m below meth c b D g ad1 ad2 136 i [] h1 h2 := by
  obtain ⟨r, k1, k2, hJ, c1, c2⟩ := P_view (w := xs (i + 1)) (h := xs (i + 2)) h1 h2 B hB hI
  refine l_ld1 X dL_law_136 ?_
  refine l_arg X (k := 1) (by omega) (by decide) dL_law_137 dL_law_138 dL_law_139 dL_law_140 dL_law_141 ?_
  refine l_arg X (k := 2) (by omega) (by decide) dL_law_142 dL_law_143 dL_law_144 dL_law_145 dL_law_146 ?_
  refine l_c7 X (as := [.int (xs (i + 1)), .int (xs (i + 2))]) (rest := []) dL_law_147 e_X7_view n_L_13 ⟨Nat.le_of_ble_eq_true rfl, Nat.le_of_ble_eq_true rfl⟩ rfl rfl (INV_len hI).1 (INV_len hI).2 (INV_c0 hI).1 (Nat.le_of_ble_eq_true rfl) (fun _ => rfl) rfl c1 ?_
  refine l_ld2 X dL_law_150 ?_
  refine l_arg X (k := 1) (by omega) (by decide) dL_law_151 dL_law_152 dL_law_153 dL_law_154 dL_law_155 ?_
  refine l_arg X (k := 2) (by omega) (by decide) dL_law_156 dL_law_157 dL_law_158 dL_law_159 dL_law_160 ?_
  refine l_c8 X (as := [.int (xs (i + 1)), .int (xs (i + 2))]) (rest := [.int r]) dL_law_161 e_X8_view n_L_17 ⟨Nat.le_of_ble_eq_true rfl, Nat.le_of_ble_eq_true rfl⟩ rfl rfl (INV_len hJ).1 (INV_len hI).2 (INV_c0 hI).2 (Nat.le_of_ble_eq_true rfl) (fun _ => rfl) rfl c2 ?_
  exact l_eq X 812 dL_law_164 (by decide) (kk _ _ hJ)
theorem l_k_scroll (X : lX p s m meth c b L xs D g ad1 ad2) (hI : INV h1 h2 B) (hB : B < 2 ^ 28) (hi : i + 5 < L) (kk : ∀ k1 k2 : List mC, INV k1 k2 (B + 30) → lJ p l e s m below meth c b D g ad1 ad2 812 i [] k1 k2) : lJ p l e s m below meth c b D g ad1 ad2 169 i [] h1 h2 := by
  obtain ⟨r, k1, k2, hJ, c1, c2⟩ := P_scroll (x := xs (i + 1)) (y := xs (i + 2)) h1 h2 B hB hI
  refine l_ld1 X dL_law_169 ?_
  refine l_arg X (k := 1) (by omega) (by decide) dL_law_170 dL_law_171 dL_law_172 dL_law_173 dL_law_174 ?_
  refine l_arg X (k := 2) (by omega) (by decide) dL_law_175 dL_law_176 dL_law_177 dL_law_178 dL_law_179 ?_
  refine l_c7 X (as := [.int (xs (i + 1)), .int (xs (i + 2))]) (rest := []) dL_law_180 e_X7_scroll n_L_18 ⟨Nat.le_of_ble_eq_true rfl, Nat.le_of_ble_eq_true rfl⟩ rfl rfl (INV_len hI).1 (INV_len hI).2 (INV_c0 hI).1 (Nat.le_of_ble_eq_true rfl) (fun _ => rfl) rfl c1 ?_
  refine l_ld2 X dL_law_183 ?_
  refine l_arg X (k := 1) (by omega) (by decide) dL_law_184 dL_law_185 dL_law_186 dL_law_187 dL_law_188 ?_
  refine l_arg X (k := 2) (by omega) (by decide) dL_law_189 dL_law_190 dL_law_191 dL_law_192 dL_law_193 ?_
  refine l_c8 X (as := [.int (xs (i + 1)), .int (xs (i + 2))]) (rest := [.int r]) dL_law_194 e_X8_scroll n_L_21 ⟨Nat.le_of_ble_eq_true rfl, Nat.le_of_ble_eq_true rfl⟩ rfl rfl (INV_len hJ).1 (INV_len hI).2 (INV_c0 hI).2 (Nat.le_of_ble_eq_true rfl) (fun _ => rfl) rfl c2 ?_
  exact l_eq X 812 dL_law_197 (by decide) (kk _ _ hJ)
theorem l_k_anchor (X : lX p s m meth c b L xs D g ad1 ad2) (hI : INV h1 h2 B) (hB : B < 2 ^ 28) (hi : i + 5 < L) (kk : ∀ k1 k2 : List mC, INV k1 k2 (B + 30) → lJ p l e s m below meth c b D g ad1 ad2 812 i [] k1 k2) : lJ p l e s m below meth c b D g ad1 ad2 202 i [] h1 h2 := by
  obtain ⟨r, k1, k2, hJ, c1, c2⟩ := P_anchor (x := xs (i + 1)) (y := xs (i + 2)) (w := xs (i + 3)) (h := xs (i + 4)) h1 h2 B hB hI
  refine l_ld1 X dL_law_202 ?_
  refine l_arg X (k := 1) (by omega) (by decide) dL_law_203 dL_law_204 dL_law_205 dL_law_206 dL_law_207 ?_
  refine l_arg X (k := 2) (by omega) (by decide) dL_law_208 dL_law_209 dL_law_210 dL_law_211 dL_law_212 ?_
  refine l_arg X (k := 3) (by omega) (by decide) dL_law_213 dL_law_214 dL_law_215 dL_law_216 dL_law_217 ?_
  refine l_arg X (k := 4) (by omega) (by decide) dL_law_218 dL_law_219 dL_law_220 dL_law_221 dL_law_222 ?_
  refine l_c7 X (as := [.int (xs (i + 1)), .int (xs (i + 2)), .int (xs (i + 3)), .int (xs (i + 4))]) (rest := []) dL_law_223 e_X7_anchor n_L_22 ⟨Nat.le_of_ble_eq_true rfl, Nat.le_of_ble_eq_true rfl⟩ rfl rfl (INV_len hI).1 (INV_len hI).2 (INV_c0 hI).1 (Nat.le_of_ble_eq_true rfl) (fun _ => rfl) rfl c1 ?_
  refine l_ld2 X dL_law_226 ?_
  refine l_arg X (k := 1) (by omega) (by decide) dL_law_227 dL_law_228 dL_law_229 dL_law_230 dL_law_231 ?_
  refine l_arg X (k := 2) (by omega) (by decide) dL_law_232 dL_law_233 dL_law_234 dL_law_235 dL_law_236 ?_
  refine l_arg X (k := 3) (by omega) (by decide) dL_law_237 dL_law_238 dL_law_239 dL_law_240 dL_law_241 ?_
  refine l_arg X (k := 4) (by omega) (by decide) dL_law_242 dL_law_243 dL_law_244 dL_law_245 dL_law_246 ?_
  refine l_c8 X (as := [.int (xs (i + 1)), .int (xs (i + 2)), .int (xs (i + 3)), .int (xs (i + 4))]) (rest := [.int r]) dL_law_247 e_X8_anchor n_L_26 ⟨Nat.le_of_ble_eq_true rfl, Nat.le_of_ble_eq_true rfl⟩ rfl rfl (INV_len hJ).1 (INV_len hI).2 (INV_c0 hI).2 (Nat.le_of_ble_eq_true rfl) (fun _ => rfl) rfl c2 ?_
  exact l_eq X 812 dL_law_250 (by decide) (kk _ _ hJ)
theorem l_k_moveAnchor (X : lX p s m meth c b L xs D g ad1 ad2) (hI : INV h1 h2 B) (hB : B < 2 ^ 28) (hi : i + 5 < L) (kk : ∀ k1 k2 : List mC, INV k1 k2 (B + 30) → lJ p l e s m below meth c b D g ad1 ad2 812 i [] k1 k2) : lJ p l e s m below meth c b D g ad1 ad2 255 i [] h1 h2 := by
  obtain ⟨r, k1, k2, hJ, c1, c2⟩ := P_moveAnchor (v := xs (i + 1)) (x := xs (i + 2)) (y := xs (i + 3)) h1 h2 B hB hI
  refine l_ld1 X dL_law_255 ?_
  refine l_arg X (k := 1) (by omega) (by decide) dL_law_256 dL_law_257 dL_law_258 dL_law_259 dL_law_260 ?_
  refine l_arg X (k := 2) (by omega) (by decide) dL_law_261 dL_law_262 dL_law_263 dL_law_264 dL_law_265 ?_
  refine l_arg X (k := 3) (by omega) (by decide) dL_law_266 dL_law_267 dL_law_268 dL_law_269 dL_law_270 ?_
  refine l_c7 X (as := [.int (xs (i + 1)), .int (xs (i + 2)), .int (xs (i + 3))]) (rest := []) dL_law_271 e_X7_moveAnchor n_L_27 ⟨Nat.le_of_ble_eq_true rfl, Nat.le_of_ble_eq_true rfl⟩ rfl rfl (INV_len hI).1 (INV_len hI).2 (INV_c0 hI).1 (Nat.le_of_ble_eq_true rfl) (fun _ => rfl) rfl c1 ?_
  refine l_ld2 X dL_law_274 ?_
  refine l_arg X (k := 1) (by omega) (by decide) dL_law_275 dL_law_276 dL_law_277 dL_law_278 dL_law_279 ?_
  refine l_arg X (k := 2) (by omega) (by decide) dL_law_280 dL_law_281 dL_law_282 dL_law_283 dL_law_284 ?_
  refine l_arg X (k := 3) (by omega) (by decide) dL_law_285 dL_law_286 dL_law_287 dL_law_288 dL_law_289 ?_
  refine l_c8 X (as := [.int (xs (i + 1)), .int (xs (i + 2)), .int (xs (i + 3))]) (rest := [.int r]) dL_law_290 e_X8_moveAnchor n_L_31 ⟨Nat.le_of_ble_eq_true rfl, Nat.le_of_ble_eq_true rfl⟩ rfl rfl (INV_len hJ).1 (INV_len hI).2 (INV_c0 hI).2 (Nat.le_of_ble_eq_true rfl) (fun _ => rfl) rfl c2 ?_
  exact l_eq X 812 dL_law_293 (by decide) (kk _ _ hJ)
theorem l_k_anchorOf (X : lX p s m meth c b L xs D g ad1 ad2) (hI : INV h1 h2 B) (hB : B < 2 ^ 28) (hi : i + 5 < L) (kk : ∀ k1 k2 : List mC, INV k1 k2 (B + 30) → lJ p l e s m below meth c b D g ad1 ad2 812 i [] k1 k2) : lJ p l e s m below meth c b D g ad1 ad2 298 i [] h1 h2 := by
  obtain ⟨r, k1, k2, hJ, c1, c2⟩ := P_anchorOf (v := xs (i + 1)) (w := xs (i + 2)) h1 h2 B hB hI
  refine l_ld1 X dL_law_298 ?_
  refine l_arg X (k := 1) (by omega) (by decide) dL_law_299 dL_law_300 dL_law_301 dL_law_302 dL_law_303 ?_
  refine l_arg X (k := 2) (by omega) (by decide) dL_law_304 dL_law_305 dL_law_306 dL_law_307 dL_law_308 ?_
  refine l_c7 X (as := [.int (xs (i + 1)), .int (xs (i + 2))]) (rest := []) dL_law_309 e_X7_anchorOf n_L_32 ⟨Nat.le_of_ble_eq_true rfl, Nat.le_of_ble_eq_true rfl⟩ rfl rfl (INV_len hI).1 (INV_len hI).2 (INV_c0 hI).1 (Nat.le_of_ble_eq_true rfl) (fun _ => rfl) rfl c1 ?_
  refine l_ld2 X dL_law_312 ?_
  refine l_arg X (k := 1) (by omega) (by decide) dL_law_313 dL_law_314 dL_law_315 dL_law_316 dL_law_317 ?_
  refine l_arg X (k := 2) (by omega) (by decide) dL_law_318 dL_law_319 dL_law_320 dL_law_321 dL_law_322 ?_
  refine l_c8 X (as := [.int (xs (i + 1)), .int (xs (i + 2))]) (rest := [.int r]) dL_law_323 e_X8_anchorOf n_L_35 ⟨Nat.le_of_ble_eq_true rfl, Nat.le_of_ble_eq_true rfl⟩ rfl rfl (INV_len hJ).1 (INV_len hI).2 (INV_c0 hI).2 (Nat.le_of_ble_eq_true rfl) (fun _ => rfl) rfl c2 ?_
  exact l_eq X 812 dL_law_326 (by decide) (kk _ _ hJ)
theorem l_k_set (X : lX p s m meth c b L xs D g ad1 ad2) (hI : INV h1 h2 B) (hB : B < 2 ^ 28) (hi : i + 5 < L) (kk : ∀ k1 k2 : List mC, INV k1 k2 (B + 30) → lJ p l e s m below meth c b D g ad1 ad2 812 i [] k1 k2) : lJ p l e s m below meth c b D g ad1 ad2 331 i [] h1 h2 := by
  obtain ⟨r, k1, k2, hJ, c1, c2⟩ := P_set (w := xs (i + 1)) (v := xs (i + 2)) h1 h2 B hB hI
  refine l_ld1 X dL_law_331 ?_
  refine l_arg X (k := 1) (by omega) (by decide) dL_law_332 dL_law_333 dL_law_334 dL_law_335 dL_law_336 ?_
  refine l_arg X (k := 2) (by omega) (by decide) dL_law_337 dL_law_338 dL_law_339 dL_law_340 dL_law_341 ?_
  refine l_c7 X (as := [.int (xs (i + 1)), .int (xs (i + 2))]) (rest := []) dL_law_342 e_X7_set n_L_36 ⟨Nat.le_of_ble_eq_true rfl, Nat.le_of_ble_eq_true rfl⟩ rfl rfl (INV_len hI).1 (INV_len hI).2 (INV_c0 hI).1 (Nat.le_of_ble_eq_true rfl) (fun _ => rfl) rfl c1 ?_
  refine l_ld2 X dL_law_345 ?_
  refine l_arg X (k := 1) (by omega) (by decide) dL_law_346 dL_law_347 dL_law_348 dL_law_349 dL_law_350 ?_
  refine l_arg X (k := 2) (by omega) (by decide) dL_law_351 dL_law_352 dL_law_353 dL_law_354 dL_law_355 ?_
  refine l_c8 X (as := [.int (xs (i + 1)), .int (xs (i + 2))]) (rest := [.int r]) dL_law_356 e_X8_set n_L_39 ⟨Nat.le_of_ble_eq_true rfl, Nat.le_of_ble_eq_true rfl⟩ rfl rfl (INV_len hJ).1 (INV_len hI).2 (INV_c0 hI).2 (Nat.le_of_ble_eq_true rfl) (fun _ => rfl) rfl c2 ?_
  exact l_eq X 812 dL_law_359 (by decide) (kk _ _ hJ)
theorem l_k_count (X : lX p s m meth c b L xs D g ad1 ad2) (hI : INV h1 h2 B) (hB : B < 2 ^ 28) (hi : i + 5 < L) (kk : ∀ k1 k2 : List mC, INV k1 k2 (B + 30) → lJ p l e s m below meth c b D g ad1 ad2 812 i [] k1 k2) : lJ p l e s m below meth c b D g ad1 ad2 364 i [] h1 h2 := by
  obtain ⟨r, k1, k2, hJ, c1, c2⟩ := P_count (v := xs (i + 1)) h1 h2 B hB hI
  refine l_ld1 X dL_law_364 ?_
  refine l_arg X (k := 1) (by omega) (by decide) dL_law_365 dL_law_366 dL_law_367 dL_law_368 dL_law_369 ?_
  refine l_c7 X (as := [.int (xs (i + 1))]) (rest := []) dL_law_370 e_X7_count n_L_40 ⟨Nat.le_of_ble_eq_true rfl, Nat.le_of_ble_eq_true rfl⟩ rfl rfl (INV_len hI).1 (INV_len hI).2 (INV_c0 hI).1 (Nat.le_of_ble_eq_true rfl) (fun _ => rfl) rfl c1 ?_
  refine l_ld2 X dL_law_373 ?_
  refine l_arg X (k := 1) (by omega) (by decide) dL_law_374 dL_law_375 dL_law_376 dL_law_377 dL_law_378 ?_
  refine l_c8 X (as := [.int (xs (i + 1))]) (rest := [.int r]) dL_law_379 e_X8_count n_L_44 ⟨Nat.le_of_ble_eq_true rfl, Nat.le_of_ble_eq_true rfl⟩ rfl rfl (INV_len hJ).1 (INV_len hI).2 (INV_c0 hI).2 (Nat.le_of_ble_eq_true rfl) (fun _ => rfl) rfl c2 ?_
  exact l_eq X 812 dL_law_382 (by decide) (kk _ _ hJ)
theorem l_k_hint (X : lX p s m meth c b L xs D g ad1 ad2) (hI : INV h1 h2 B) (hB : B < 2 ^ 28) (hi : i + 5 < L) (kk : ∀ k1 k2 : List mC, INV k1 k2 (B + 30) → lJ p l e s m below meth c b D g ad1 ad2 812 i [] k1 k2) : lJ p l e s m below meth c b D g ad1 ad2 387 i [] h1 h2 := by
  obtain ⟨r, k1, k2, hJ, c1, c2⟩ := P_hint (v := xs (i + 1)) (w := xs (i + 2)) (h := xs (i + 3)) (s := xs (i + 4)) (g := xs (i + 5)) h1 h2 B hB hI
  refine l_ld1 X dL_law_387 ?_
  refine l_arg X (k := 1) (by omega) (by decide) dL_law_388 dL_law_389 dL_law_390 dL_law_391 dL_law_392 ?_
  refine l_arg X (k := 2) (by omega) (by decide) dL_law_393 dL_law_394 dL_law_395 dL_law_396 dL_law_397 ?_
  refine l_arg X (k := 3) (by omega) (by decide) dL_law_398 dL_law_399 dL_law_400 dL_law_401 dL_law_402 ?_
  refine l_arg X (k := 4) (by omega) (by decide) dL_law_403 dL_law_404 dL_law_405 dL_law_406 dL_law_407 ?_
  refine l_arg X (k := 5) (by omega) (by decide) dL_law_408 dL_law_409 dL_law_410 dL_law_411 dL_law_412 ?_
  refine l_c7 X (as := [.int (xs (i + 1)), .int (xs (i + 2)), .int (xs (i + 3)), .int (xs (i + 4)), .int (xs (i + 5))]) (rest := []) dL_law_413 e_X7_hint n_L_45 ⟨Nat.le_of_ble_eq_true rfl, Nat.le_of_ble_eq_true rfl⟩ rfl rfl (INV_len hI).1 (INV_len hI).2 (INV_c0 hI).1 (Nat.le_of_ble_eq_true rfl) (fun _ => rfl) rfl c1 ?_
  refine l_ld2 X dL_law_416 ?_
  refine l_arg X (k := 1) (by omega) (by decide) dL_law_417 dL_law_418 dL_law_419 dL_law_420 dL_law_421 ?_
  refine l_arg X (k := 2) (by omega) (by decide) dL_law_422 dL_law_423 dL_law_424 dL_law_425 dL_law_426 ?_
  refine l_arg X (k := 3) (by omega) (by decide) dL_law_427 dL_law_428 dL_law_429 dL_law_430 dL_law_431 ?_
  refine l_arg X (k := 4) (by omega) (by decide) dL_law_432 dL_law_433 dL_law_434 dL_law_435 dL_law_436 ?_
  refine l_arg X (k := 5) (by omega) (by decide) dL_law_437 dL_law_438 dL_law_439 dL_law_440 dL_law_441 ?_
  refine l_c8 X (as := [.int (xs (i + 1)), .int (xs (i + 2)), .int (xs (i + 3)), .int (xs (i + 4)), .int (xs (i + 5))]) (rest := [.int r]) dL_law_442 e_X8_hint n_L_49 ⟨Nat.le_of_ble_eq_true rfl, Nat.le_of_ble_eq_true rfl⟩ rfl rfl (INV_len hJ).1 (INV_len hI).2 (INV_c0 hI).2 (Nat.le_of_ble_eq_true rfl) (fun _ => rfl) rfl c2 ?_
  exact l_eq X 812 dL_law_445 (by decide) (kk _ _ hJ)
theorem l_k_alter (X : lX p s m meth c b L xs D g ad1 ad2) (hI : INV h1 h2 B) (hB : B < 2 ^ 28) (hi : i + 5 < L) (kk : ∀ k1 k2 : List mC, INV k1 k2 (B + 30) → lJ p l e s m below meth c b D g ad1 ad2 812 i [] k1 k2) : lJ p l e s m below meth c b D g ad1 ad2 450 i [] h1 h2 := by
  obtain ⟨r, k1, k2, hJ, c1, c2⟩ := P_alter (h := xs (i + 1)) (w := xs (i + 2)) (v := xs (i + 3)) h1 h2 B hB hI
  refine l_ld1 X dL_law_450 ?_
  refine l_arg X (k := 1) (by omega) (by decide) dL_law_451 dL_law_452 dL_law_453 dL_law_454 dL_law_455 ?_
  refine l_arg X (k := 2) (by omega) (by decide) dL_law_456 dL_law_457 dL_law_458 dL_law_459 dL_law_460 ?_
  refine l_arg X (k := 3) (by omega) (by decide) dL_law_461 dL_law_462 dL_law_463 dL_law_464 dL_law_465 ?_
  refine l_c7 X (as := [.int (xs (i + 1)), .int (xs (i + 2)), .int (xs (i + 3))]) (rest := []) dL_law_466 e_X7_alter n_L_50 ⟨Nat.le_of_ble_eq_true rfl, Nat.le_of_ble_eq_true rfl⟩ rfl rfl (INV_len hI).1 (INV_len hI).2 (INV_c0 hI).1 (Nat.le_of_ble_eq_true rfl) (fun _ => rfl) rfl c1 ?_
  refine l_ld2 X dL_law_469 ?_
  refine l_arg X (k := 1) (by omega) (by decide) dL_law_470 dL_law_471 dL_law_472 dL_law_473 dL_law_474 ?_
  refine l_arg X (k := 2) (by omega) (by decide) dL_law_475 dL_law_476 dL_law_477 dL_law_478 dL_law_479 ?_
  refine l_arg X (k := 3) (by omega) (by decide) dL_law_480 dL_law_481 dL_law_482 dL_law_483 dL_law_484 ?_
  refine l_c8 X (as := [.int (xs (i + 1)), .int (xs (i + 2)), .int (xs (i + 3))]) (rest := [.int r]) dL_law_485 e_X8_alter n_L_53 ⟨Nat.le_of_ble_eq_true rfl, Nat.le_of_ble_eq_true rfl⟩ rfl rfl (INV_len hJ).1 (INV_len hI).2 (INV_c0 hI).2 (Nat.le_of_ble_eq_true rfl) (fun _ => rfl) rfl c2 ?_
  exact l_eq X 812 dL_law_488 (by decide) (kk _ _ hJ)
theorem l_k_open (X : lX p s m meth c b L xs D g ad1 ad2) (hI : INV h1 h2 B) (hB : B < 2 ^ 28) (hi : i + 5 < L) (kk : ∀ k1 k2 : List mC, INV k1 k2 (B + 30) → lJ p l e s m below meth c b D g ad1 ad2 812 i [] k1 k2) : lJ p l e s m below meth c b D g ad1 ad2 493 i [] h1 h2 := by
  obtain ⟨r, k1, k2, hJ, c1, c2⟩ := P_open (h := xs (i + 1)) h1 h2 B hB hI
  refine l_ld1 X dL_law_493 ?_
  refine l_arg X (k := 1) (by omega) (by decide) dL_law_494 dL_law_495 dL_law_496 dL_law_497 dL_law_498 ?_
  refine l_c7 X (as := [.int (xs (i + 1))]) (rest := []) dL_law_499 e_X7_open n_L_54 ⟨Nat.le_of_ble_eq_true rfl, Nat.le_of_ble_eq_true rfl⟩ rfl rfl (INV_len hI).1 (INV_len hI).2 (INV_c0 hI).1 (Nat.le_of_ble_eq_true rfl) (fun _ => rfl) rfl c1 ?_
  refine l_ld2 X dL_law_502 ?_
  refine l_arg X (k := 1) (by omega) (by decide) dL_law_503 dL_law_504 dL_law_505 dL_law_506 dL_law_507 ?_
  refine l_c8 X (as := [.int (xs (i + 1))]) (rest := [.int r]) dL_law_508 e_X8_open n_L_57 ⟨Nat.le_of_ble_eq_true rfl, Nat.le_of_ble_eq_true rfl⟩ rfl rfl (INV_len hJ).1 (INV_len hI).2 (INV_c0 hI).2 (Nat.le_of_ble_eq_true rfl) (fun _ => rfl) rfl c2 ?_
  exact l_eq X 812 dL_law_511 (by decide) (kk _ _ hJ)
theorem l_k_close (X : lX p s m meth c b L xs D g ad1 ad2) (hI : INV h1 h2 B) (hB : B < 2 ^ 28) (hi : i + 5 < L) (kk : ∀ k1 k2 : List mC, INV k1 k2 (B + 30) → lJ p l e s m below meth c b D g ad1 ad2 812 i [] k1 k2) : lJ p l e s m below meth c b D g ad1 ad2 516 i [] h1 h2 := by
  obtain ⟨r, k1, k2, hJ, c1, c2⟩ := P_close (h := xs (i + 1)) h1 h2 B hB hI
  refine l_ld1 X dL_law_516 ?_
  refine l_arg X (k := 1) (by omega) (by decide) dL_law_517 dL_law_518 dL_law_519 dL_law_520 dL_law_521 ?_
  refine l_c7 X (as := [.int (xs (i + 1))]) (rest := []) dL_law_522 e_X7_close n_L_58 ⟨Nat.le_of_ble_eq_true rfl, Nat.le_of_ble_eq_true rfl⟩ rfl rfl (INV_len hI).1 (INV_len hI).2 (INV_c0 hI).1 (Nat.le_of_ble_eq_true rfl) (fun _ => rfl) rfl c1 ?_
  refine l_ld2 X dL_law_525 ?_
  refine l_arg X (k := 1) (by omega) (by decide) dL_law_526 dL_law_527 dL_law_528 dL_law_529 dL_law_530 ?_
  refine l_c8 X (as := [.int (xs (i + 1))]) (rest := [.int r]) dL_law_531 e_X8_close n_L_61 ⟨Nat.le_of_ble_eq_true rfl, Nat.le_of_ble_eq_true rfl⟩ rfl rfl (INV_len hJ).1 (INV_len hI).2 (INV_c0 hI).2 (Nat.le_of_ble_eq_true rfl) (fun _ => rfl) rfl c2 ?_
  exact l_eq X 812 dL_law_534 (by decide) (kk _ _ hJ)
theorem l_k_settle (X : lX p s m meth c b L xs D g ad1 ad2) (hI : INV h1 h2 B) (hB : B < 2 ^ 28) (hi : i + 5 < L) (kk : ∀ k1 k2 : List mC, INV k1 k2 (B + 30) → lJ p l e s m below meth c b D g ad1 ad2 812 i [] k1 k2) : lJ p l e s m below meth c b D g ad1 ad2 539 i [] h1 h2 := by
  obtain ⟨r, k1, k2, hJ, c1, c2⟩ := P_settle h1 h2 B hB hI
  refine l_ld1 X dL_law_539 ?_
  refine l_c7 X (as := []) (rest := []) dL_law_540 e_X7_settle n_L_62 ⟨Nat.le_of_ble_eq_true rfl, Nat.le_of_ble_eq_true rfl⟩ rfl rfl (INV_len hI).1 (INV_len hI).2 (INV_c0 hI).1 (Nat.le_of_ble_eq_true rfl) (fun _ => rfl) rfl c1 ?_
  refine l_ld2 X dL_law_543 ?_
  refine l_c8 X (as := []) (rest := [.int r]) dL_law_544 e_X8_settle n_L_66 ⟨Nat.le_of_ble_eq_true rfl, Nat.le_of_ble_eq_true rfl⟩ rfl rfl (INV_len hJ).1 (INV_len hI).2 (INV_c0 hI).2 (Nat.le_of_ble_eq_true rfl) (fun _ => rfl) rfl c2 ?_
  exact l_eq X 812 dL_law_547 (by decide) (kk _ _ hJ)
theorem l_k_hintOf (X : lX p s m meth c b L xs D g ad1 ad2) (hI : INV h1 h2 B) (hB : B < 2 ^ 28) (hi : i + 5 < L) (kk : ∀ k1 k2 : List mC, INV k1 k2 (B + 30) → lJ p l e s m below meth c b D g ad1 ad2 812 i [] k1 k2) : lJ p l e s m below meth c b D g ad1 ad2 552 i [] h1 h2 := by
  obtain ⟨r, k1, k2, hJ, c1, c2⟩ := P_hintOf (h := xs (i + 1)) (w := xs (i + 2)) h1 h2 B hB hI
  refine l_ld1 X dL_law_552 ?_
  refine l_arg X (k := 1) (by omega) (by decide) dL_law_553 dL_law_554 dL_law_555 dL_law_556 dL_law_557 ?_
  refine l_arg X (k := 2) (by omega) (by decide) dL_law_558 dL_law_559 dL_law_560 dL_law_561 dL_law_562 ?_
  refine l_c7 X (as := [.int (xs (i + 1)), .int (xs (i + 2))]) (rest := []) dL_law_563 e_X7_hintOf n_L_67 ⟨Nat.le_of_ble_eq_true rfl, Nat.le_of_ble_eq_true rfl⟩ rfl rfl (INV_len hI).1 (INV_len hI).2 (INV_c0 hI).1 (Nat.le_of_ble_eq_true rfl) (fun _ => rfl) rfl c1 ?_
  refine l_ld2 X dL_law_566 ?_
  refine l_arg X (k := 1) (by omega) (by decide) dL_law_567 dL_law_568 dL_law_569 dL_law_570 dL_law_571 ?_
  refine l_arg X (k := 2) (by omega) (by decide) dL_law_572 dL_law_573 dL_law_574 dL_law_575 dL_law_576 ?_
  refine l_c8 X (as := [.int (xs (i + 1)), .int (xs (i + 2))]) (rest := [.int r]) dL_law_577 e_X8_hintOf n_L_70 ⟨Nat.le_of_ble_eq_true rfl, Nat.le_of_ble_eq_true rfl⟩ rfl rfl (INV_len hJ).1 (INV_len hI).2 (INV_c0 hI).2 (Nat.le_of_ble_eq_true rfl) (fun _ => rfl) rfl c2 ?_
  exact l_eq X 812 dL_law_580 (by decide) (kk _ _ hJ)
theorem l_k_room (X : lX p s m meth c b L xs D g ad1 ad2) (hI : INV h1 h2 B) (hB : B < 2 ^ 28) (hi : i + 5 < L) (kk : ∀ k1 k2 : List mC, INV k1 k2 (B + 30) → lJ p l e s m below meth c b D g ad1 ad2 812 i [] k1 k2) : lJ p l e s m below meth c b D g ad1 ad2 585 i [] h1 h2 := by
  obtain ⟨r, k1, k2, hJ, c1, c2⟩ := P_room (h := xs (i + 1)) (s := xs (i + 2)) h1 h2 B hB hI
  refine l_ld1 X dL_law_585 ?_
  refine l_arg X (k := 1) (by omega) (by decide) dL_law_586 dL_law_587 dL_law_588 dL_law_589 dL_law_590 ?_
  refine l_arg X (k := 2) (by omega) (by decide) dL_law_591 dL_law_592 dL_law_593 dL_law_594 dL_law_595 ?_
  refine l_c7 X (as := [.int (xs (i + 1)), .int (xs (i + 2))]) (rest := []) dL_law_596 e_X7_room n_L_71 ⟨Nat.le_of_ble_eq_true rfl, Nat.le_of_ble_eq_true rfl⟩ rfl rfl (INV_len hI).1 (INV_len hI).2 (INV_c0 hI).1 (Nat.le_of_ble_eq_true rfl) (fun _ => rfl) rfl c1 ?_
  refine l_ld2 X dL_law_599 ?_
  refine l_arg X (k := 1) (by omega) (by decide) dL_law_600 dL_law_601 dL_law_602 dL_law_603 dL_law_604 ?_
  refine l_arg X (k := 2) (by omega) (by decide) dL_law_605 dL_law_606 dL_law_607 dL_law_608 dL_law_609 ?_
  refine l_c8 X (as := [.int (xs (i + 1)), .int (xs (i + 2))]) (rest := [.int r]) dL_law_610 e_X8_room n_L_74 ⟨Nat.le_of_ble_eq_true rfl, Nat.le_of_ble_eq_true rfl⟩ rfl rfl (INV_len hJ).1 (INV_len hI).2 (INV_c0 hI).2 (Nat.le_of_ble_eq_true rfl) (fun _ => rfl) rfl c2 ?_
  exact l_eq X 812 dL_law_613 (by decide) (kk _ _ hJ)
theorem l_k_ifOn (X : lX p s m meth c b L xs D g ad1 ad2) (hI : INV h1 h2 B) (hB : B < 2 ^ 28) (hi : i + 5 < L) (kk : ∀ k1 k2 : List mC, INV k1 k2 (B + 30) → lJ p l e s m below meth c b D g ad1 ad2 812 i [] k1 k2) : lJ p l e s m below meth c b D g ad1 ad2 618 i [] h1 h2 := by
  obtain ⟨r, k1, k2, hJ, c1, c2⟩ := P_ifOn (h := xs (i + 1)) (s := xs (i + 2)) (w := xs (i + 3)) h1 h2 B hB hI
  refine l_ld1 X dL_law_618 ?_
  refine l_arg X (k := 1) (by omega) (by decide) dL_law_619 dL_law_620 dL_law_621 dL_law_622 dL_law_623 ?_
  refine l_arg X (k := 2) (by omega) (by decide) dL_law_624 dL_law_625 dL_law_626 dL_law_627 dL_law_628 ?_
  refine l_arg X (k := 3) (by omega) (by decide) dL_law_629 dL_law_630 dL_law_631 dL_law_632 dL_law_633 ?_
  refine l_c7 X (as := [.int (xs (i + 1)), .int (xs (i + 2)), .int (xs (i + 3))]) (rest := []) dL_law_634 e_X7_ifOn n_L_75 ⟨Nat.le_of_ble_eq_true rfl, Nat.le_of_ble_eq_true rfl⟩ rfl rfl (INV_len hI).1 (INV_len hI).2 (INV_c0 hI).1 (Nat.le_of_ble_eq_true rfl) (fun _ => rfl) rfl c1 ?_
  refine l_ld2 X dL_law_637 ?_
  refine l_arg X (k := 1) (by omega) (by decide) dL_law_638 dL_law_639 dL_law_640 dL_law_641 dL_law_642 ?_
  refine l_arg X (k := 2) (by omega) (by decide) dL_law_643 dL_law_644 dL_law_645 dL_law_646 dL_law_647 ?_
  refine l_arg X (k := 3) (by omega) (by decide) dL_law_648 dL_law_649 dL_law_650 dL_law_651 dL_law_652 ?_
  refine l_c8 X (as := [.int (xs (i + 1)), .int (xs (i + 2)), .int (xs (i + 3))]) (rest := [.int r]) dL_law_653 e_X8_ifOn n_L_78 ⟨Nat.le_of_ble_eq_true rfl, Nat.le_of_ble_eq_true rfl⟩ rfl rfl (INV_len hJ).1 (INV_len hI).2 (INV_c0 hI).2 (Nat.le_of_ble_eq_true rfl) (fun _ => rfl) rfl c2 ?_
  exact l_eq X 812 dL_law_656 (by decide) (kk _ _ hJ)
theorem l_k_at (X : lX p s m meth c b L xs D g ad1 ad2) (hI : INV h1 h2 B) (hB : B < 2 ^ 28) (hi : i + 5 < L) (kk : ∀ k1 k2 : List mC, INV k1 k2 (B + 30) → lJ p l e s m below meth c b D g ad1 ad2 812 i [] k1 k2) : lJ p l e s m below meth c b D g ad1 ad2 661 i [] h1 h2 := by
  obtain ⟨r, k1, k2, hJ, c1, c2⟩ := P_at (x := xs (i + 1)) (y := xs (i + 2)) h1 h2 B hB hI
  refine l_ld1 X dL_law_661 ?_
  refine l_arg X (k := 1) (by omega) (by decide) dL_law_662 dL_law_663 dL_law_664 dL_law_665 dL_law_666 ?_
  refine l_arg X (k := 2) (by omega) (by decide) dL_law_667 dL_law_668 dL_law_669 dL_law_670 dL_law_671 ?_
  refine l_c7 X (as := [.int (xs (i + 1)), .int (xs (i + 2))]) (rest := []) dL_law_672 e_X7_at n_L_79 ⟨Nat.le_of_ble_eq_true rfl, Nat.le_of_ble_eq_true rfl⟩ rfl rfl (INV_len hI).1 (INV_len hI).2 (INV_c0 hI).1 (Nat.le_of_ble_eq_true rfl) (fun _ => rfl) rfl c1 ?_
  refine l_ld2 X dL_law_675 ?_
  refine l_arg X (k := 1) (by omega) (by decide) dL_law_676 dL_law_677 dL_law_678 dL_law_679 dL_law_680 ?_
  refine l_arg X (k := 2) (by omega) (by decide) dL_law_681 dL_law_682 dL_law_683 dL_law_684 dL_law_685 ?_
  refine l_c8 X (as := [.int (xs (i + 1)), .int (xs (i + 2))]) (rest := [.int r]) dL_law_686 e_X8_at n_L_82 ⟨Nat.le_of_ble_eq_true rfl, Nat.le_of_ble_eq_true rfl⟩ rfl rfl (INV_len hJ).1 (INV_len hI).2 (INV_c0 hI).2 (Nat.le_of_ble_eq_true rfl) (fun _ => rfl) rfl c2 ?_
  exact l_eq X 812 dL_law_689 (by decide) (kk _ _ hJ)
theorem l_k_sizeFor (X : lX p s m meth c b L xs D g ad1 ad2) (hI : INV h1 h2 B) (hB : B < 2 ^ 28) (hi : i + 5 < L) (kk : ∀ k1 k2 : List mC, INV k1 k2 (B + 30) → lJ p l e s m below meth c b D g ad1 ad2 812 i [] k1 k2) : lJ p l e s m below meth c b D g ad1 ad2 694 i [] h1 h2 := by
  obtain ⟨r, k1, k2, hJ, c1, c2⟩ := P_sizeFor (h := xs (i + 1)) (w := xs (i + 2)) h1 h2 B hB hI
  refine l_ld1 X dL_law_694 ?_
  refine l_arg X (k := 1) (by omega) (by decide) dL_law_695 dL_law_696 dL_law_697 dL_law_698 dL_law_699 ?_
  refine l_arg X (k := 2) (by omega) (by decide) dL_law_700 dL_law_701 dL_law_702 dL_law_703 dL_law_704 ?_
  refine l_c7 X (as := [.int (xs (i + 1)), .int (xs (i + 2))]) (rest := []) dL_law_705 e_X7_sizeFor n_L_83 ⟨Nat.le_of_ble_eq_true rfl, Nat.le_of_ble_eq_true rfl⟩ rfl rfl (INV_len hI).1 (INV_len hI).2 (INV_c0 hI).1 (Nat.le_of_ble_eq_true rfl) (fun _ => rfl) rfl c1 ?_
  refine l_ld2 X dL_law_708 ?_
  refine l_arg X (k := 1) (by omega) (by decide) dL_law_709 dL_law_710 dL_law_711 dL_law_712 dL_law_713 ?_
  refine l_arg X (k := 2) (by omega) (by decide) dL_law_714 dL_law_715 dL_law_716 dL_law_717 dL_law_718 ?_
  refine l_c8 X (as := [.int (xs (i + 1)), .int (xs (i + 2))]) (rest := [.int r]) dL_law_719 e_X8_sizeFor n_L_86 ⟨Nat.le_of_ble_eq_true rfl, Nat.le_of_ble_eq_true rfl⟩ rfl rfl (INV_len hJ).1 (INV_len hI).2 (INV_c0 hI).2 (Nat.le_of_ble_eq_true rfl) (fun _ => rfl) rfl c2 ?_
  exact l_eq X 812 dL_law_722 (by decide) (kk _ _ hJ)
theorem l_k_undo (X : lX p s m meth c b L xs D g ad1 ad2) (hI : INV h1 h2 B) (hB : B < 2 ^ 28) (hi : i + 5 < L) (kk : ∀ k1 k2 : List mC, INV k1 k2 (B + 30) → lJ p l e s m below meth c b D g ad1 ad2 812 i [] k1 k2) : lJ p l e s m below meth c b D g ad1 ad2 727 i [] h1 h2 := by
  obtain ⟨r, k1, k2, hJ, c1, c2⟩ := P_undo h1 h2 B hB hI
  refine l_ld1 X dL_law_727 ?_
  refine l_c7 X (as := []) (rest := []) dL_law_728 e_X7_undo n_L_87 ⟨Nat.le_of_ble_eq_true rfl, Nat.le_of_ble_eq_true rfl⟩ rfl rfl (INV_len hI).1 (INV_len hI).2 (INV_c0 hI).1 (Nat.le_of_ble_eq_true rfl) (fun _ => rfl) rfl c1 ?_
  refine l_ld2 X dL_law_731 ?_
  refine l_c8 X (as := []) (rest := [.int r]) dL_law_732 e_X8_undo n_L_90 ⟨Nat.le_of_ble_eq_true rfl, Nat.le_of_ble_eq_true rfl⟩ rfl rfl (INV_len hJ).1 (INV_len hI).2 (INV_c0 hI).2 (Nat.le_of_ble_eq_true rfl) (fun _ => rfl) rfl c2 ?_
  exact l_eq X 812 dL_law_735 (by decide) (kk _ _ hJ)
theorem l_k_type (X : lX p s m meth c b L xs D g ad1 ad2) (hI : INV h1 h2 B) (hB : B < 2 ^ 28) (hi : i + 5 < L) (kk : ∀ k1 k2 : List mC, INV k1 k2 (B + 30) → lJ p l e s m below meth c b D g ad1 ad2 812 i [] k1 k2) : lJ p l e s m below meth c b D g ad1 ad2 740 i [] h1 h2 := by
  obtain ⟨r, k1, k2, hJ, c1, c2⟩ := P_type (v := xs (i + 1)) h1 h2 B hB hI
  refine l_ld1 X dL_law_740 ?_
  refine l_arg X (k := 1) (by omega) (by decide) dL_law_741 dL_law_742 dL_law_743 dL_law_744 dL_law_745 ?_
  refine l_c7 X (as := [.int (xs (i + 1))]) (rest := []) dL_law_746 e_X7_type n_L_91 ⟨Nat.le_of_ble_eq_true rfl, Nat.le_of_ble_eq_true rfl⟩ rfl rfl (INV_len hI).1 (INV_len hI).2 (INV_c0 hI).1 (Nat.le_of_ble_eq_true rfl) (fun _ => rfl) rfl c1 ?_
  refine l_ld2 X dL_law_749 ?_
  refine l_arg X (k := 1) (by omega) (by decide) dL_law_750 dL_law_751 dL_law_752 dL_law_753 dL_law_754 ?_
  refine l_c8 X (as := [.int (xs (i + 1))]) (rest := [.int r]) dL_law_755 e_X8_type n_L_94 ⟨Nat.le_of_ble_eq_true rfl, Nat.le_of_ble_eq_true rfl⟩ rfl rfl (INV_len hJ).1 (INV_len hI).2 (INV_c0 hI).2 (Nat.le_of_ble_eq_true rfl) (fun _ => rfl) rfl c2 ?_
  exact l_eq X 812 dL_law_758 (by decide) (kk _ _ hJ)
theorem l_k_clearText (X : lX p s m meth c b L xs D g ad1 ad2) (hI : INV h1 h2 B) (hB : B < 2 ^ 28) (hi : i + 5 < L) (kk : ∀ k1 k2 : List mC, INV k1 k2 (B + 30) → lJ p l e s m below meth c b D g ad1 ad2 812 i [] k1 k2) : lJ p l e s m below meth c b D g ad1 ad2 763 i [] h1 h2 := by
  obtain ⟨r, k1, k2, hJ, c1, c2⟩ := P_clearText h1 h2 B hB hI
  refine l_ld1 X dL_law_763 ?_
  refine l_c7 X (as := []) (rest := []) dL_law_764 e_X7_clearText n_L_95 ⟨Nat.le_of_ble_eq_true rfl, Nat.le_of_ble_eq_true rfl⟩ rfl rfl (INV_len hI).1 (INV_len hI).2 (INV_c0 hI).1 (Nat.le_of_ble_eq_true rfl) (fun _ => rfl) rfl c1 ?_
  refine l_ld2 X dL_law_767 ?_
  refine l_c8 X (as := []) (rest := [.int r]) dL_law_768 e_X8_clearText n_L_98 ⟨Nat.le_of_ble_eq_true rfl, Nat.le_of_ble_eq_true rfl⟩ rfl rfl (INV_len hJ).1 (INV_len hI).2 (INV_c0 hI).2 (Nat.le_of_ble_eq_true rfl) (fun _ => rfl) rfl c2 ?_
  exact l_eq X 812 dL_law_771 (by decide) (kk _ _ hJ)
theorem l_k_fault (X : lX p s m meth c b L xs D g ad1 ad2) (hI : INV h1 h2 B) (hB : B < 2 ^ 28) (hi : i + 5 < L) (kk : ∀ k1 k2 : List mC, INV k1 k2 (B + 30) → lJ p l e s m below meth c b D g ad1 ad2 812 i [] k1 k2) : lJ p l e s m below meth c b D g ad1 ad2 776 i [] h1 h2 := by
  obtain ⟨r, k1, k2, hJ, c1, c2⟩ := P_fault (w := xs (i + 1)) h1 h2 B hB hI
  refine l_ld1 X dL_law_776 ?_
  refine l_arg X (k := 1) (by omega) (by decide) dL_law_777 dL_law_778 dL_law_779 dL_law_780 dL_law_781 ?_
  refine l_c7 X (as := [.int (xs (i + 1))]) (rest := []) dL_law_782 e_X7_fault n_L_99 ⟨Nat.le_of_ble_eq_true rfl, Nat.le_of_ble_eq_true rfl⟩ rfl rfl (INV_len hI).1 (INV_len hI).2 (INV_c0 hI).1 (Nat.le_of_ble_eq_true rfl) (fun _ => rfl) rfl c1 ?_
  refine l_ld2 X dL_law_785 ?_
  refine l_arg X (k := 1) (by omega) (by decide) dL_law_786 dL_law_787 dL_law_788 dL_law_789 dL_law_790 ?_
  refine l_c8 X (as := [.int (xs (i + 1))]) (rest := [.int r]) dL_law_791 e_X8_fault n_L_102 ⟨Nat.le_of_ble_eq_true rfl, Nat.le_of_ble_eq_true rfl⟩ rfl rfl (INV_len hJ).1 (INV_len hI).2 (INV_c0 hI).2 (Nat.le_of_ble_eq_true rfl) (fun _ => rfl) rfl c2 ?_
  exact l_eq X 812 dL_law_794 (by decide) (kk _ _ hJ)
theorem l_k_carry (X : lX p s m meth c b L xs D g ad1 ad2) (hI : INV h1 h2 B) (hB : B < 2 ^ 28) (hi : i + 5 < L) (kk : ∀ k1 k2 : List mC, INV k1 k2 (B + 30) → lJ p l e s m below meth c b D g ad1 ad2 812 i [] k1 k2) : lJ p l e s m below meth c b D g ad1 ad2 799 i [] h1 h2 := by
  obtain ⟨r, k1, k2, hJ, c1, c2⟩ := P_carry h1 h2 B hB hI
  refine l_ld1 X dL_law_799 ?_
  refine l_c7 X (as := []) (rest := []) dL_law_800 e_X7_carry n_L_103 ⟨Nat.le_of_ble_eq_true rfl, Nat.le_of_ble_eq_true rfl⟩ rfl rfl (INV_len hI).1 (INV_len hI).2 (INV_c0 hI).1 (Nat.le_of_ble_eq_true rfl) (fun _ => rfl) rfl c1 ?_
  refine l_ld2 X dL_law_803 ?_
  refine l_c8 X (as := []) (rest := [.int r]) dL_law_804 e_X8_carry n_L_106 ⟨Nat.le_of_ble_eq_true rfl, Nat.le_of_ble_eq_true rfl⟩ rfl rfl (INV_len hJ).1 (INV_len hI).2 (INV_c0 hI).2 (Nat.le_of_ble_eq_true rfl) (fun _ => rfl) rfl c2 ?_
  exact l_eq X 812 dL_law_807 (by decide) (kk _ _ hJ)
end LAWC
