/-! THE LAW: the cases of a step -/
/-- behind a case: the law goes on -/
def lK (p : Program) (l : Launch) (e : Env) (s : State) (m : MethodId) (below : List Frame) (meth : Method) (c : Code) (b : Nat) (D : va_G) (g : Nat → ClassId) (ad : Nat → Nat) (k B : Nat) : Prop :=
  ∀ (x4 x5 x6 x7 x8 x9 x10 x11 x12 x13 x14 x15 x16 x17 x18 : Value) (h : List mC) (d : aF) (nO n : Nat), ST h d 5 9 nO (B + 1) n → LI d → lJ p l e s m below meth c b D g ad 957 [.ref 29, .ref 0, .int 1, .int (nI k), x4, x5, x6, x7, x8, x9, x10, x11, x12, x13, x14, x15, x16, x17, x18] [] h
set_option maxHeartbeats 4000000 in
set_option maxRecDepth 100000 in
theorem l_c320 {p : Program} {l : Launch} {e : Env} {s : State} {m : MethodId} {below : List Frame} {meth : Method} {c : Code} {b L : Nat} {xs : Nat → Int32} {D : va_G} {g : Nat → ClassId} {ad : Nat → Nat} (X : lX p s m meth c b L xs D g ad) {d : aF} {nO B n k j y : Nat} {h : List mC} (S : ST h d 5 9 nO B n) (I : LI d) (hj : j < 9) (hy : y < 2 ^ 31) (hB : B + 1 < 2 ^ 28) (kk : lK p l e s m below meth c b D g ad k B) {x6 x7 x8 x9 x10 x11 x12 x13 x14 x15 x16 x17 x18 : Value} : lJ p l e s m below meth c b D g ad 320 [.ref 29, .ref 0, .int 1, .int (nI k), .int (nI y), .int (nI j), x6, x7, x8, x9, x10, x11, x12, x13, x14, x15, x16, x17, x18] [] h := by
  obtain ⟨hw, hR, hI⟩ := ST_w S
  obtain ⟨F1, F2, F3, F4, cc, q, f1, f2, f3, f4, f5, f6, f7⟩ := p_facts hw hI hR
  have lO := hw.2.2.1
  by_cases gk : j ∈ ordL d nO
  · have wj : ¬ (p_all d 5 9 nO).1 j = 1 := fun z => (F4 j).mp z gk
    refine lJ_aload_n X dL_law_320 rfl ?_
    refine lJ_iload X dL_law_321 rfl ?_
    refine lJ_bipush X (v := 8) dL_law_323 rfl ?_
    refine lJ_cV2i X dL_law_325 e_X7_hintOf n_L_15 ⟨Nat.le_of_ble_eq_true rfl, Nat.le_of_ble_eq_true rfl⟩ rfl (Nat.le_of_ble_eq_true rfl) (E_hint_8 S hj) ?_
    refine lJ_iconst X (v := 1) dL_law_328 rfl ?_
    refine lJ_icmp_ne X 336 dL_law_329 rfl (fun c_329 => ?_) (fun c_329 => False.elim (by exact wj c_329))
    refine lJ_iconst X (v := 0) dL_law_336 rfl ?_
    refine lJ_istore X dL_law_337 (Nat.le_of_ble_eq_true rfl) (ls2 := [_, _, _, _, _, _, _, _, _, _, _, _, _, _, _, _, _, _, _]) rfl ?_
    refine lJ_aload_n X dL_law_339 rfl ?_
    refine lJ_iload X dL_law_340 rfl ?_
    refine lJ_cV1i X dL_law_342 e_X7_open n_L_54 ⟨Nat.le_of_ble_eq_true rfl, Nat.le_of_ble_eq_true rfl⟩ rfl (Nat.le_of_ble_eq_true rfl) (E_open_np S hj gk) ?_
    refine lJ_istore X dL_law_345 (Nat.le_of_ble_eq_true rfl) (ls2 := [_, _, _, _, _, _, _, _, _, _, _, _, _, _, _, _, _, _, _]) rfl ?_
    refine lJ_iload X dL_law_347 rfl ?_
    refine lJ_if_eq X 379 dL_law_349 rfl (fun _ => ?_) (fun c => absurd c (by decide))
    refine lJ_iload X dL_law_379 rfl ?_
    refine lJ_sipush X (v := (-10002)) dL_law_381 rfl ?_
    refine lJ_icmp_ne X 391 dL_law_384 rfl (fun c => absurd c (by decide)) (fun _ => ?_)
    refine lJ_iconst X (v := 1) dL_law_387 rfl ?_
    refine lJ_goto X 392 dL_law_388 rfl ?_
    refine lJ_istore_n X dL_law_392 (Nat.le_of_ble_eq_true rfl) (ls2 := [_, _, _, _, _, _, _, _, _, _, _, _, _, _, _, _, _, _, _]) rfl ?_
    refine lJ_goto X 957 dL_law_393 rfl ?_
    exact kk _ _ _ _ _ _ _ _ _ _ _ _ _ _ _ h _ _ _ (ST_mono S (by omega) (by omega)) I
  · have wj : (p_all d 5 9 nO).1 j = 1 := (F4 j).mpr gk
    obtain ⟨h2, S2, c2⟩ := E_open S hj gk hB
    obtain ⟨hw2, hR2, hI2⟩ := ST_w S2
    obtain ⟨-, -, -, G4, -⟩ := p_facts hw2 hI2 hR2
    have wj2 : ¬ (p_all (upd (upd d (148 + nO) (nI j)) 147 (nI (nO + 1))) 5 9 (nO + 1)).1 j = 1 := fun z => (G4 j).mp z (ord_new (by omega))
    have I2 : LI (upd (upd d (148 + nO) (nI j)) 147 (nI (nO + 1))) := LI_same I (fun c hc => by rw [upd_ne (by omega), upd_ne (by omega)])
    refine lJ_aload_n X dL_law_320 rfl ?_
    refine lJ_iload X dL_law_321 rfl ?_
    refine lJ_bipush X (v := 8) dL_law_323 rfl ?_
    refine lJ_cV2i X dL_law_325 e_X7_hintOf n_L_15 ⟨Nat.le_of_ble_eq_true rfl, Nat.le_of_ble_eq_true rfl⟩ rfl (Nat.le_of_ble_eq_true rfl) (lCt_val wj (E_hint_8 S hj)) ?_
    refine lJ_iconst X (v := 1) dL_law_328 rfl ?_
    refine lJ_icmp_ne X 336 dL_law_329 rfl (fun c => absurd c (by decide)) (fun _ => ?_)
    refine lJ_iconst X (v := 1) dL_law_332 rfl ?_
    refine lJ_goto X 337 dL_law_333 rfl ?_
    refine lJ_istore X dL_law_337 (Nat.le_of_ble_eq_true rfl) (ls2 := [_, _, _, _, _, _, _, _, _, _, _, _, _, _, _, _, _, _, _]) rfl ?_
    refine lJ_aload_n X dL_law_339 rfl ?_
    refine lJ_iload X dL_law_340 rfl ?_
    refine lJ_cV1i X dL_law_342 e_X7_open n_L_54 ⟨Nat.le_of_ble_eq_true rfl, Nat.le_of_ble_eq_true rfl⟩ rfl (Nat.le_of_ble_eq_true rfl) (c2) ?_
    refine lJ_istore X dL_law_345 (Nat.le_of_ble_eq_true rfl) (ls2 := [_, _, _, _, _, _, _, _, _, _, _, _, _, _, _, _, _, _, _]) rfl ?_
    refine lJ_iload X dL_law_347 rfl ?_
    refine lJ_if_eq X 379 dL_law_349 rfl (fun c => absurd c (by decide)) (fun _ => ?_)
    refine lJ_iload X dL_law_352 rfl ?_
    refine lJ_aload_n X dL_law_354 rfl ?_
    refine lJ_iload X dL_law_355 rfl ?_
    refine lJ_bipush X (v := 8) dL_law_357 rfl ?_
    refine lJ_cV2i X dL_law_359 e_X7_hintOf n_L_15 ⟨Nat.le_of_ble_eq_true rfl, Nat.le_of_ble_eq_true rfl⟩ rfl (Nat.le_of_ble_eq_true rfl) (E_hint_8 S2 hj) ?_
    refine lJ_icmp_ne X 375 dL_law_362 rfl (fun c_362 => False.elim (by exact c_362 rfl)) (fun c_362 => ?_)
    refine lJ_iload X dL_law_365 rfl ?_
    refine lJ_iconst X (v := 1) dL_law_367 rfl ?_
    refine lJ_icmp_eq X 375 dL_law_368 rfl (fun c_368 => False.elim (by exact wj2 c_368)) (fun c_368 => ?_)
    refine lJ_iconst X (v := 1) dL_law_371 rfl ?_
    refine lJ_goto X 392 dL_law_372 rfl ?_
    refine lJ_istore_n X dL_law_392 (Nat.le_of_ble_eq_true rfl) (ls2 := [_, _, _, _, _, _, _, _, _, _, _, _, _, _, _, _, _, _, _]) rfl ?_
    refine lJ_goto X 957 dL_law_393 rfl ?_
    exact kk _ _ _ _ _ _ _ _ _ _ _ _ _ _ _ h2 _ _ _ S2 I2
set_option maxHeartbeats 4000000 in
set_option maxRecDepth 100000 in
theorem l_c396 {p : Program} {l : Launch} {e : Env} {s : State} {m : MethodId} {below : List Frame} {meth : Method} {c : Code} {b L : Nat} {xs : Nat → Int32} {D : va_G} {g : Nat → ClassId} {ad : Nat → Nat} (X : lX p s m meth c b L xs D g ad) {d : aF} {nO B n k j y : Nat} {h : List mC} (S : ST h d 5 9 nO B n) (I : LI d) (hj : j < 9) (hy : y < 2 ^ 31) (hB : B + 1 < 2 ^ 28) (kk : lK p l e s m below meth c b D g ad k B) {x6 x7 x8 x9 x10 x11 x12 x13 x14 x15 x16 x17 x18 : Value} : lJ p l e s m below meth c b D g ad 396 [.ref 29, .ref 0, .int 1, .int (nI k), .int (nI y), .int (nI j), x6, x7, x8, x9, x10, x11, x12, x13, x14, x15, x16, x17, x18] [] h := by
  obtain ⟨hw, hR, hI⟩ := ST_w S
  obtain ⟨F1, F2, F3, F4, cc, q, f1, f2, f3, f4, f5, f6, f7⟩ := p_facts hw hI hR
  have lO := hw.2.2.1
  by_cases gk : j ∈ ordL d nO
  · obtain ⟨h2, d2, n1, e1, e2, S2, c2⟩ := E_close S hj gk
    subst e1
    have I2 : LI d2 := LI_same I (fun c hc => e2 c (by omega))
    refine lJ_aload_n X dL_law_396 rfl ?_
    refine lJ_bipush X (v := 6) dL_law_397 rfl ?_
    refine lJ_cV1i X dL_law_399 e_X7_count n_L_9 ⟨Nat.le_of_ble_eq_true rfl, Nat.le_of_ble_eq_true rfl⟩ rfl (Nat.le_of_ble_eq_true rfl) (E_count_6 S) ?_
    refine lJ_istore X dL_law_402 (Nat.le_of_ble_eq_true rfl) (ls2 := [_, _, _, _, _, _, _, _, _, _, _, _, _, _, _, _, _, _, _]) rfl ?_
    refine lJ_aload_n X dL_law_404 rfl ?_
    refine lJ_iload X dL_law_405 rfl ?_
    refine lJ_cV1i X dL_law_407 e_X7_close n_L_57 ⟨Nat.le_of_ble_eq_true rfl, Nat.le_of_ble_eq_true rfl⟩ rfl (Nat.le_of_ble_eq_true rfl) (c2) ?_
    refine lJ_istore X dL_law_410 (Nat.le_of_ble_eq_true rfl) (ls2 := [_, _, _, _, _, _, _, _, _, _, _, _, _, _, _, _, _, _, _]) rfl ?_
    refine lJ_iload X dL_law_412 rfl ?_
    refine lJ_sipush X (v := (-10002)) dL_law_414 rfl ?_
    refine lJ_icmp_ne X 439 dL_law_417 rfl (fun c_417 => ?_) (fun c_417 => False.elim (by exact ST_ne S2 c_417))
    refine lJ_aload_n X dL_law_439 rfl ?_
    refine lJ_bipush X (v := 6) dL_law_440 rfl ?_
    refine lJ_cV1i X dL_law_442 e_X7_count n_L_9 ⟨Nat.le_of_ble_eq_true rfl, Nat.le_of_ble_eq_true rfl⟩ rfl (Nat.le_of_ble_eq_true rfl) (E_count_6 S2) ?_
    refine lJ_iload X dL_law_445 rfl ?_
    refine lJ_iconst X (v := 1) dL_law_447 rfl ?_
    refine lJ_isub X dL_law_448 ?_
    refine lJ_icmp_ne X 467 dL_law_449 rfl (fun c_449 => False.elim (by exact c_449 (nI_pred n1).symm)) (fun c_449 => ?_)
    refine lJ_aload_n X dL_law_452 rfl ?_
    refine lJ_bipush X (v := 7) dL_law_453 rfl ?_
    refine lJ_cV1i X dL_law_455 e_X7_count n_L_9 ⟨Nat.le_of_ble_eq_true rfl, Nat.le_of_ble_eq_true rfl⟩ rfl (Nat.le_of_ble_eq_true rfl) (E_count_7 S2) ?_
    refine lJ_iload X dL_law_458 rfl ?_
    refine lJ_icmp_ne X 467 dL_law_460 rfl (fun c_460 => False.elim (by exact c_460 rfl)) (fun c_460 => ?_)
    refine lJ_iconst X (v := 1) dL_law_463 rfl ?_
    refine lJ_goto X 468 dL_law_464 rfl ?_
    refine lJ_istore_n X dL_law_468 (Nat.le_of_ble_eq_true rfl) (ls2 := [_, _, _, _, _, _, _, _, _, _, _, _, _, _, _, _, _, _, _]) rfl ?_
    refine lJ_goto X 957 dL_law_469 rfl ?_
    exact kk _ _ _ _ _ _ _ _ _ _ _ _ _ _ _ h2 _ _ _ (ST_mono S2 (by omega) (by omega)) I2
  · have c2 := E_close_np S hj gk
    refine lJ_aload_n X dL_law_396 rfl ?_
    refine lJ_bipush X (v := 6) dL_law_397 rfl ?_
    refine lJ_cV1i X dL_law_399 e_X7_count n_L_9 ⟨Nat.le_of_ble_eq_true rfl, Nat.le_of_ble_eq_true rfl⟩ rfl (Nat.le_of_ble_eq_true rfl) (E_count_6 S) ?_
    refine lJ_istore X dL_law_402 (Nat.le_of_ble_eq_true rfl) (ls2 := [_, _, _, _, _, _, _, _, _, _, _, _, _, _, _, _, _, _, _]) rfl ?_
    refine lJ_aload_n X dL_law_404 rfl ?_
    refine lJ_iload X dL_law_405 rfl ?_
    refine lJ_cV1i X dL_law_407 e_X7_close n_L_57 ⟨Nat.le_of_ble_eq_true rfl, Nat.le_of_ble_eq_true rfl⟩ rfl (Nat.le_of_ble_eq_true rfl) (c2) ?_
    refine lJ_istore X dL_law_410 (Nat.le_of_ble_eq_true rfl) (ls2 := [_, _, _, _, _, _, _, _, _, _, _, _, _, _, _, _, _, _, _]) rfl ?_
    refine lJ_iload X dL_law_412 rfl ?_
    refine lJ_sipush X (v := (-10002)) dL_law_414 rfl ?_
    refine lJ_icmp_ne X 439 dL_law_417 rfl (fun c => absurd c (by decide)) (fun _ => ?_)
    refine lJ_aload_n X dL_law_420 rfl ?_
    refine lJ_bipush X (v := 6) dL_law_421 rfl ?_
    refine lJ_cV1i X dL_law_423 e_X7_count n_L_9 ⟨Nat.le_of_ble_eq_true rfl, Nat.le_of_ble_eq_true rfl⟩ rfl (Nat.le_of_ble_eq_true rfl) (E_count_6 S) ?_
    refine lJ_iload X dL_law_426 rfl ?_
    refine lJ_icmp_ne X 435 dL_law_428 rfl (fun c_428 => False.elim (by exact c_428 rfl)) (fun c_428 => ?_)
    refine lJ_iconst X (v := 1) dL_law_431 rfl ?_
    refine lJ_goto X 468 dL_law_432 rfl ?_
    refine lJ_istore_n X dL_law_468 (Nat.le_of_ble_eq_true rfl) (ls2 := [_, _, _, _, _, _, _, _, _, _, _, _, _, _, _, _, _, _, _]) rfl ?_
    refine lJ_goto X 957 dL_law_469 rfl ?_
    exact kk _ _ _ _ _ _ _ _ _ _ _ _ _ _ _ h _ _ _ (ST_mono S (by omega) (by omega)) I
set_option maxHeartbeats 4000000 in
set_option maxRecDepth 100000 in
theorem l_goto957 {p : Program} {l : Launch} {e : Env} {s : State} {m : MethodId} {below : List Frame} {meth : Method} {c : Code} {b L : Nat} {xs : Nat → Int32} {D : va_G} {g : Nat → ClassId} {ad : Nat → Nat} (X : lX p s m meth c b L xs D g ad) {d : aF} {nO B n k : Nat} {h : List mC} (S : ST h d 5 9 nO B n) (I : LI d) (hB : B + 1 < 2 ^ 28) (kk : lK p l e s m below meth c b D g ad k B) {x4 x5 x6 x7 x8 x9 x10 x11 x12 x13 x14 x15 x16 x17 x18 : Value} : lJ p l e s m below meth c b D g ad 556 [.ref 29, .ref 0, .int 1, .int (nI k), x4, x5, x6, x7, x8, x9, x10, x11, x12, x13, x14, x15, x16, x17, x18] [] h := by
  refine lJ_goto X 957 dL_law_556 rfl ?_
  exact kk _ _ _ _ _ _ _ _ _ _ _ _ _ _ _ h _ _ _ (ST_mono S (by omega) (by omega)) I
set_option maxHeartbeats 4000000 in
set_option maxRecDepth 100000 in
theorem l_c472 {p : Program} {l : Launch} {e : Env} {s : State} {m : MethodId} {below : List Frame} {meth : Method} {c : Code} {b L : Nat} {xs : Nat → Int32} {D : va_G} {g : Nat → ClassId} {ad : Nat → Nat} (X : lX p s m meth c b L xs D g ad) {d : aF} {nO B n k j y : Nat} {h : List mC} (S : ST h d 5 9 nO B n) (I : LI d) (hj : j < 9) (hy : y < 2 ^ 31) (hB : B + 1 < 2 ^ 28) (kk : lK p l e s m below meth c b D g ad k B) {x6 x7 x8 x9 x10 x11 x12 x13 x14 x15 x16 x17 x18 : Value} : lJ p l e s m below meth c b D g ad 472 [.ref 29, .ref 0, .int 1, .int (nI k), .int (nI y), .int (nI j), x6, x7, x8, x9, x10, x11, x12, x13, x14, x15, x16, x17, x18] [] h := by
  obtain ⟨hw, hR, hI⟩ := ST_w S
  obtain ⟨F1, F2, F3, F4, cc, q, f1, f2, f3, f4, f5, f6, f7⟩ := p_facts hw hI hR
  have lO := hw.2.2.1
  obtain ⟨h2, S2, c2⟩ := E_settle S
  have T2 : tr d (rmb d (p_all d 5 9 nO).2.1 9) 5 0 0 := ⟨by rw [rmb_ne (by omega), Int32.add_zero], by rw [rmb_ne (by omega), Int32.add_zero], fun a ha => ⟨by rw [Int32.add_zero]; exact rmb_ne (by omega), by rw [Int32.add_zero]; exact rmb_ne (by omega)⟩, fun c hc => rmb_ne (by omega)⟩
  have eA : p_all (rmb d (p_all d 5 9 nO).2.1 9) 5 9 nO = p_all d 5 9 nO := settle_all hw hI hR I.1 T2 (fun i hi => rmb_at hi)
  have I2 : LI (rmb d (p_all d 5 9 nO).2.1 9) := LI_same I (fun c hc => rmb_ne (by omega))
  have hset : ∀ i, i < 9 → ¬ (p_all (rmb d (p_all d 5 9 nO).2.1 9) 5 9 nO).2.1 i = -1 → (rmb d (p_all d 5 9 nO).2.1 9) (160 + i) = (p_all (rmb d (p_all d 5 9 nO).2.1 9) 5 9 nO).2.1 i := fun i hi g => by
    rw [eA] at g ⊢
    rw [rmb_at hi, iif_f g]
  have e7 : (p_all (rmb d (p_all d 5 9 nO).2.1 9) 5 9 nO).2.2 = nI cc := by rw [eA]; exact f1
  have le : cN (fun j => ¬ (p_all d 5 9 nO).2.1 j = -1 ∧ ¬ d (160 + j) = (p_all d 5 9 nO).2.1 j) 9 ≤ cc := by rw [f2]; exact cN_sub (fun o z => z.1) 9
  have eP : cP (fun j => ¬ (p_all d 5 9 nO).2.1 j = -1 ∧ ¬ d (160 + j) = (p_all d 5 9 nO).2.1 j) 9 = nI (cN (fun j => ¬ (p_all d 5 9 nO).2.1 j = -1 ∧ ¬ d (160 + j) = (p_all d 5 9 nO).2.1 j) 9) := cP_nI _ _
  refine lJ_aload_n X dL_law_472 rfl ?_
  refine lJ_cV0i X dL_law_473 e_X7_settle n_L_60 ⟨Nat.le_of_ble_eq_true rfl, Nat.le_of_ble_eq_true rfl⟩ rfl (Nat.le_of_ble_eq_true rfl) (lCt_val eP c2) ?_
  refine lJ_istore X dL_law_476 (Nat.le_of_ble_eq_true rfl) (ls2 := [_, _, _, _, _, _, _, _, _, _, _, _, _, _, _, _, _, _, _]) rfl ?_
  refine lJ_iload X dL_law_478 rfl ?_
  refine lJ_if_lt X 498 dL_law_480 rfl (fun c_480 => False.elim (by exact nI_pos (by omega) c_480)) (fun c_480 => ?_)
  refine lJ_iload X dL_law_483 rfl ?_
  refine lJ_aload_n X dL_law_485 rfl ?_
  refine lJ_bipush X (v := 7) dL_law_486 rfl ?_
  refine lJ_cV1i X dL_law_488 e_X7_count n_L_9 ⟨Nat.le_of_ble_eq_true rfl, Nat.le_of_ble_eq_true rfl⟩ rfl (Nat.le_of_ble_eq_true rfl) (lCt_val e7 (E_count_7 S2)) ?_
  refine lJ_icmp_gt X 498 dL_law_491 rfl (fun c_491 => False.elim (by exact nI_nlt le (by omega) c_491)) (fun c_491 => ?_)
  refine lJ_iconst X (v := 1) dL_law_494 rfl ?_
  refine lJ_goto X 499 dL_law_495 rfl ?_
  refine lJ_istore_n X dL_law_499 (Nat.le_of_ble_eq_true rfl) (ls2 := [_, _, _, _, _, _, _, _, _, _, _, _, _, _, _, _, _, _, _]) rfl ?_
  refine lJ_iconst X (v := 0) dL_law_500 rfl ?_
  refine lJ_istore X dL_law_501 (Nat.le_of_ble_eq_true rfl) (ls2 := [_, _, _, _, _, _, _, _, _, _, _, _, _, _, _, _, _, _, _]) rfl ?_
  exact l_settled X hset (fun h3 S3 => l_goto957 X S3 I2 hB kk) 9 0 h2 (by omega) S2
set_option maxHeartbeats 4000000 in
set_option maxRecDepth 100000 in
theorem l_c559 {p : Program} {l : Launch} {e : Env} {s : State} {m : MethodId} {below : List Frame} {meth : Method} {c : Code} {b L : Nat} {xs : Nat → Int32} {D : va_G} {g : Nat → ClassId} {ad : Nat → Nat} (X : lX p s m meth c b L xs D g ad) {d : aF} {nO B n k j y : Nat} {h : List mC} (S : ST h d 5 9 nO B n) (I : LI d) (hj : j < 9) (hy : y < 2 ^ 31) (hB : B + 1 < 2 ^ 28) (kk : lK p l e s m below meth c b D g ad k B) {x6 x7 x8 x9 x10 x11 x12 x13 x14 x15 x16 x17 x18 : Value} : lJ p l e s m below meth c b D g ad 559 [.ref 29, .ref 0, .int 1, .int (nI k), .int (nI y), .int (nI j), x6, x7, x8, x9, x10, x11, x12, x13, x14, x15, x16, x17, x18] [] h := by
  obtain ⟨hw, hR, hI⟩ := ST_w S
  obtain ⟨F1, F2, F3, F4, cc, q, f1, f2, f3, f4, f5, f6, f7⟩ := p_facts hw hI hR
  have lO := hw.2.2.1
  have g10 : y / 128 % 10 < 10 := Nat.mod_lt _ (by omega)
  obtain ⟨h2, S2, c2⟩ := E_alter (j := j) (k := 7) (v := nI (y / 128 % 10)) S hj (by omega) (by omega) (Or.inr (Or.inr (Or.inr (Or.inr (Or.inr (Or.inr (Or.inr ⟨rfl, nI_rg (a := 0) (b := 9) (Nat.zero_le _) (by omega) (by omega)⟩)))))))
  have I2 : LI (upd d (51 + 12 * 7 + j) (nI (y / 128 % 10))) := LI_same I (fun c hc => upd_ne (by omega))
  refine lJ_aload_n X dL_law_559 rfl ?_
  refine lJ_iload X dL_law_560 rfl ?_
  refine lJ_bipush X (v := 7) dL_law_562 rfl ?_
  refine lJ_cV2i X dL_law_564 e_X7_hintOf n_L_15 ⟨Nat.le_of_ble_eq_true rfl, Nat.le_of_ble_eq_true rfl⟩ rfl (Nat.le_of_ble_eq_true rfl) (E_hint_7 S hj) ?_
  refine lJ_istore X dL_law_567 (Nat.le_of_ble_eq_true rfl) (ls2 := [_, _, _, _, _, _, _, _, _, _, _, _, _, _, _, _, _, _, _]) rfl ?_
  refine lJ_aload_n X dL_law_569 rfl ?_
  refine lJ_iload X dL_law_570 rfl ?_
  refine lJ_bipush X (v := 7) dL_law_572 rfl ?_
  refine lJ_iload X dL_law_574 rfl ?_
  refine lJ_sipush X (v := 128) dL_law_576 rfl ?_
  refine lJ_idiv X dL_law_579 (by decide) ?_
  refine lJ_top (pk_div (d := 128) (by omega) (by decide) (by decide)) ?_
  refine lJ_bipush X (v := 10) dL_law_580 rfl ?_
  refine lJ_irem X dL_law_582 (by decide) ?_
  refine lJ_top (pk_rem (d := 10) (by omega) (by decide) (by decide)) ?_
  refine lJ_cV3i X dL_law_583 e_X7_alter n_L_51 ⟨Nat.le_of_ble_eq_true rfl, Nat.le_of_ble_eq_true rfl⟩ rfl (Nat.le_of_ble_eq_true rfl) (c2) ?_
  refine lJ_iload X dL_law_586 rfl ?_
  refine lJ_icmp_ne X 595 dL_law_588 rfl (fun c_588 => False.elim (by exact c_588 rfl)) (fun c_588 => ?_)
  refine lJ_iconst X (v := 1) dL_law_591 rfl ?_
  refine lJ_goto X 596 dL_law_592 rfl ?_
  refine lJ_istore_n X dL_law_596 (Nat.le_of_ble_eq_true rfl) (ls2 := [_, _, _, _, _, _, _, _, _, _, _, _, _, _, _, _, _, _, _]) rfl ?_
  refine lJ_goto X 957 dL_law_597 rfl ?_
  exact kk _ _ _ _ _ _ _ _ _ _ _ _ _ _ _ h2 _ _ _ (ST_mono S2 (by omega) (by omega)) I2
set_option maxHeartbeats 4000000 in
set_option maxRecDepth 100000 in
theorem l_c912 {p : Program} {l : Launch} {e : Env} {s : State} {m : MethodId} {below : List Frame} {meth : Method} {c : Code} {b L : Nat} {xs : Nat → Int32} {D : va_G} {g : Nat → ClassId} {ad : Nat → Nat} (X : lX p s m meth c b L xs D g ad) {d : aF} {nO B n k j y : Nat} {h : List mC} (S : ST h d 5 9 nO B n) (I : LI d) (hj : j < 9) (hy : y < 2 ^ 31) (hB : B + 1 < 2 ^ 28) (kk : lK p l e s m below meth c b D g ad k B) {x6 x7 x8 x9 x10 x11 x12 x13 x14 x15 x16 x17 x18 : Value} : lJ p l e s m below meth c b D g ad 912 [.ref 29, .ref 0, .int 1, .int (nI k), .int (nI y), .int (nI j), x6, x7, x8, x9, x10, x11, x12, x13, x14, x15, x16, x17, x18] [] h := by
  obtain ⟨hw, hR, hI⟩ := ST_w S
  obtain ⟨F1, F2, F3, F4, cc, q, f1, f2, f3, f4, f5, f6, f7⟩ := p_facts hw hI hR
  have lO := hw.2.2.1
  rcases (show y / 128 % 2 = 0 ∨ y / 128 % 2 = 1 by omega) with e2 | e2
  · obtain ⟨h2, r, hr, S2, c2⟩ := E_sizeFor_0 S hj
    rcases hr with rfl | ⟨t, t1, t2, rfl⟩
    · refine lJ_aload_n X dL_law_912 rfl ?_
      refine lJ_iload X dL_law_913 rfl ?_
      refine lJ_iload X dL_law_915 rfl ?_
      refine lJ_sipush X (v := 128) dL_law_917 rfl ?_
      refine lJ_idiv X dL_law_920 (by decide) ?_
      refine lJ_top (pk_div (d := 128) (by omega) (by decide) (by decide)) ?_
      refine lJ_iconst X (v := 2) dL_law_921 rfl ?_
      refine lJ_irem X dL_law_922 (by decide) ?_
      refine lJ_top (pk_rem (d := 2) (by omega) (by decide) (by decide)) ?_
      refine lJ_top (congrArg nI e2) ?_
      refine lJ_cV2i X dL_law_923 e_X7_sizeFor n_L_70 ⟨Nat.le_of_ble_eq_true rfl, Nat.le_of_ble_eq_true rfl⟩ rfl (Nat.le_of_ble_eq_true rfl) (c2) ?_
      refine lJ_istore X dL_law_926 (Nat.le_of_ble_eq_true rfl) (ls2 := [_, _, _, _, _, _, _, _, _, _, _, _, _, _, _, _, _, _, _]) rfl ?_
      refine lJ_iload X dL_law_928 rfl ?_
      refine lJ_sipush X (v := (-10004)) dL_law_930 rfl ?_
      refine lJ_icmp_eq X 951 dL_law_933 rfl (fun _ => ?_) (fun c => absurd c (by decide))
      refine lJ_iconst X (v := 1) dL_law_951 rfl ?_
      refine lJ_goto X 956 dL_law_952 rfl ?_
      refine lJ_istore_n X dL_law_956 (Nat.le_of_ble_eq_true rfl) (ls2 := [_, _, _, _, _, _, _, _, _, _, _, _, _, _, _, _, _, _, _]) rfl ?_
      exact kk _ _ _ _ _ _ _ _ _ _ _ _ _ _ _ h2 _ _ _ (ST_mono S2 (by omega) (by omega)) I
    · refine lJ_aload_n X dL_law_912 rfl ?_
      refine lJ_iload X dL_law_913 rfl ?_
      refine lJ_iload X dL_law_915 rfl ?_
      refine lJ_sipush X (v := 128) dL_law_917 rfl ?_
      refine lJ_idiv X dL_law_920 (by decide) ?_
      refine lJ_top (pk_div (d := 128) (by omega) (by decide) (by decide)) ?_
      refine lJ_iconst X (v := 2) dL_law_921 rfl ?_
      refine lJ_irem X dL_law_922 (by decide) ?_
      refine lJ_top (pk_rem (d := 2) (by omega) (by decide) (by decide)) ?_
      refine lJ_top (congrArg nI e2) ?_
      refine lJ_cV2i X dL_law_923 e_X7_sizeFor n_L_70 ⟨Nat.le_of_ble_eq_true rfl, Nat.le_of_ble_eq_true rfl⟩ rfl (Nat.le_of_ble_eq_true rfl) (c2) ?_
      refine lJ_istore X dL_law_926 (Nat.le_of_ble_eq_true rfl) (ls2 := [_, _, _, _, _, _, _, _, _, _, _, _, _, _, _, _, _, _, _]) rfl ?_
      refine lJ_iload X dL_law_928 rfl ?_
      refine lJ_sipush X (v := (-10004)) dL_law_930 rfl ?_
      refine lJ_icmp_eq X 951 dL_law_933 rfl (fun c_933 => False.elim (by exact nI_neg1b (by omega) c_933)) (fun c_933 => ?_)
      refine lJ_iload X dL_law_936 rfl ?_
      refine lJ_bipush X (v := 20) dL_law_938 rfl ?_
      refine lJ_icmp_lt X 955 dL_law_940 rfl (fun c_940 => False.elim (by exact nI_nlt (b := 20) t1 (by omega) c_940)) (fun c_940 => ?_)
      refine lJ_iload X dL_law_943 rfl ?_
      refine lJ_sipush X (v := 400) dL_law_945 rfl ?_
      refine lJ_icmp_gt X 955 dL_law_948 rfl (fun c_948 => False.elim (by exact nI_nlt (a := 400) t2 (by omega) c_948)) (fun c_948 => ?_)
      refine lJ_iconst X (v := 1) dL_law_951 rfl ?_
      refine lJ_goto X 956 dL_law_952 rfl ?_
      refine lJ_istore_n X dL_law_956 (Nat.le_of_ble_eq_true rfl) (ls2 := [_, _, _, _, _, _, _, _, _, _, _, _, _, _, _, _, _, _, _]) rfl ?_
      exact kk _ _ _ _ _ _ _ _ _ _ _ _ _ _ _ h2 _ _ _ (ST_mono S2 (by omega) (by omega)) I
  · obtain ⟨h2, r, hr, S2, c2⟩ := E_sizeFor_1 S hj
    rcases hr with rfl | ⟨t, t1, t2, rfl⟩
    · refine lJ_aload_n X dL_law_912 rfl ?_
      refine lJ_iload X dL_law_913 rfl ?_
      refine lJ_iload X dL_law_915 rfl ?_
      refine lJ_sipush X (v := 128) dL_law_917 rfl ?_
      refine lJ_idiv X dL_law_920 (by decide) ?_
      refine lJ_top (pk_div (d := 128) (by omega) (by decide) (by decide)) ?_
      refine lJ_iconst X (v := 2) dL_law_921 rfl ?_
      refine lJ_irem X dL_law_922 (by decide) ?_
      refine lJ_top (pk_rem (d := 2) (by omega) (by decide) (by decide)) ?_
      refine lJ_top (congrArg nI e2) ?_
      refine lJ_cV2i X dL_law_923 e_X7_sizeFor n_L_70 ⟨Nat.le_of_ble_eq_true rfl, Nat.le_of_ble_eq_true rfl⟩ rfl (Nat.le_of_ble_eq_true rfl) (c2) ?_
      refine lJ_istore X dL_law_926 (Nat.le_of_ble_eq_true rfl) (ls2 := [_, _, _, _, _, _, _, _, _, _, _, _, _, _, _, _, _, _, _]) rfl ?_
      refine lJ_iload X dL_law_928 rfl ?_
      refine lJ_sipush X (v := (-10004)) dL_law_930 rfl ?_
      refine lJ_icmp_eq X 951 dL_law_933 rfl (fun _ => ?_) (fun c => absurd c (by decide))
      refine lJ_iconst X (v := 1) dL_law_951 rfl ?_
      refine lJ_goto X 956 dL_law_952 rfl ?_
      refine lJ_istore_n X dL_law_956 (Nat.le_of_ble_eq_true rfl) (ls2 := [_, _, _, _, _, _, _, _, _, _, _, _, _, _, _, _, _, _, _]) rfl ?_
      exact kk _ _ _ _ _ _ _ _ _ _ _ _ _ _ _ h2 _ _ _ (ST_mono S2 (by omega) (by omega)) I
    · refine lJ_aload_n X dL_law_912 rfl ?_
      refine lJ_iload X dL_law_913 rfl ?_
      refine lJ_iload X dL_law_915 rfl ?_
      refine lJ_sipush X (v := 128) dL_law_917 rfl ?_
      refine lJ_idiv X dL_law_920 (by decide) ?_
      refine lJ_top (pk_div (d := 128) (by omega) (by decide) (by decide)) ?_
      refine lJ_iconst X (v := 2) dL_law_921 rfl ?_
      refine lJ_irem X dL_law_922 (by decide) ?_
      refine lJ_top (pk_rem (d := 2) (by omega) (by decide) (by decide)) ?_
      refine lJ_top (congrArg nI e2) ?_
      refine lJ_cV2i X dL_law_923 e_X7_sizeFor n_L_70 ⟨Nat.le_of_ble_eq_true rfl, Nat.le_of_ble_eq_true rfl⟩ rfl (Nat.le_of_ble_eq_true rfl) (c2) ?_
      refine lJ_istore X dL_law_926 (Nat.le_of_ble_eq_true rfl) (ls2 := [_, _, _, _, _, _, _, _, _, _, _, _, _, _, _, _, _, _, _]) rfl ?_
      refine lJ_iload X dL_law_928 rfl ?_
      refine lJ_sipush X (v := (-10004)) dL_law_930 rfl ?_
      refine lJ_icmp_eq X 951 dL_law_933 rfl (fun c_933 => False.elim (by exact nI_neg1b (by omega) c_933)) (fun c_933 => ?_)
      refine lJ_iload X dL_law_936 rfl ?_
      refine lJ_bipush X (v := 20) dL_law_938 rfl ?_
      refine lJ_icmp_lt X 955 dL_law_940 rfl (fun c_940 => False.elim (by exact nI_nlt (b := 20) t1 (by omega) c_940)) (fun c_940 => ?_)
      refine lJ_iload X dL_law_943 rfl ?_
      refine lJ_sipush X (v := 400) dL_law_945 rfl ?_
      refine lJ_icmp_gt X 955 dL_law_948 rfl (fun c_948 => False.elim (by exact nI_nlt (a := 400) t2 (by omega) c_948)) (fun c_948 => ?_)
      refine lJ_iconst X (v := 1) dL_law_951 rfl ?_
      refine lJ_goto X 956 dL_law_952 rfl ?_
      refine lJ_istore_n X dL_law_956 (Nat.le_of_ble_eq_true rfl) (ls2 := [_, _, _, _, _, _, _, _, _, _, _, _, _, _, _, _, _, _, _]) rfl ?_
      exact kk _ _ _ _ _ _ _ _ _ _ _ _ _ _ _ h2 _ _ _ (ST_mono S2 (by omega) (by omega)) I
