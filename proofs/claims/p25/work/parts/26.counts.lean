/-! THE CLASS: counts and remembered sides -/
theorem of1 (x : Int32) : x + Int32.ofInt 1 = x + 1 := by rw [show Int32.ofInt 1 = 1 by decide]
set_option maxHeartbeats 4000000 in
set_option maxRecDepth 100000 in
theorem L_X7_countOpen {C : aF} {Hs : tH} {T1 : tT} {P1 : tP} {Od : tO} {T2 : tT} {P2 : tP} {RS SD XS YS OR : aF} {shn : Int32} {nH : Nat} (h5 : gG C 5 = nI nH) (hl : nH ≤ 12) : ∀ (m k : Nat), k + m = nH → mJ k_X7_countOpen 4 [.ref 0, .int (cP (fun o => q_open C (nI o)) k), .int (nI k)] [] (cH C Hs (RS, SD, XS, YS, OR, shn) T1 P1 Od T2 P2) (some (.int (cP (fun o => q_open C (nI o)) nH))) (cH C Hs (RS, SD, XS, YS, OR, shn) T1 P1 Od T2 P2) := by
  intro m
  induction m with
  | zero =>
    intro k hk
    refine mJ_iload_n dX7_countOpen_4 rfl ?_
    refine mJ_aload_n dX7_countOpen_5 rfl ?_
    refine mJ_get dX7_countOpen_6 f_X7_12 rfl rfl ?_
    refine mJ_iconst (v := 5) dX7_countOpen_9 rfl ?_
    refine mJ_cV1i dX7_countOpen_10 e_X5_get n_X7_80 ⟨Nat.le_of_ble_eq_true rfl, Nat.le_of_ble_eq_true rfl⟩ rfl rfl (Nat.le_of_ble_eq_true rfl) (C_X5_get) ?_
    refine mJ_icmp_ge 36 dX7_countOpen_13 rfl (fun c_13 => ?_) (fun c_13 => False.elim (by exact c_13 (by rw [h5, show k = nH by omega]; exact Int32.le_refl _)))
    refine mJ_iload_n dX7_countOpen_36 rfl ?_
    exact mJ_iret dX7_countOpen_37 rfl (by rw [show k = nH by omega]) (rfl)
  | succ m ih =>
    intro k hk
    refine mJ_iload_n dX7_countOpen_4 rfl ?_
    refine mJ_aload_n dX7_countOpen_5 rfl ?_
    refine mJ_get dX7_countOpen_6 f_X7_12 rfl rfl ?_
    refine mJ_iconst (v := 5) dX7_countOpen_9 rfl ?_
    refine mJ_cV1i dX7_countOpen_10 e_X5_get n_X7_80 ⟨Nat.le_of_ble_eq_true rfl, Nat.le_of_ble_eq_true rfl⟩ rfl rfl (Nat.le_of_ble_eq_true rfl) (C_X5_get) ?_
    refine mJ_icmp_ge 36 dX7_countOpen_13 rfl (fun c_13 => False.elim (by rw [h5] at c_13; exact nI_ge (show k < nH by omega) (by omega) c_13)) (fun c_13 => ?_)
    refine mJ_aload_n dX7_countOpen_16 rfl ?_
    refine mJ_get dX7_countOpen_17 f_X7_12 rfl rfl ?_
    refine mJ_iload_n dX7_countOpen_20 rfl ?_
    refine mJ_cV1i dX7_countOpen_21 e_X5_isOpen n_X7_149 ⟨Nat.le_of_ble_eq_true rfl, Nat.le_of_ble_eq_true rfl⟩ rfl rfl (Nat.le_of_ble_eq_true rfl) (C_X5_isOpen) ?_
    refine mJ_b2i (fun b_21 => ?_) (fun b_21 => ?_)
    · refine mJ_if_eq 30 dX7_countOpen_24 rfl (fun c => absurd c (by decide)) (fun _ => ?_)
      refine mJ_iinc dX7_countOpen_27 rfl (Nat.le_of_ble_eq_true rfl) (v := (cP (fun o => q_open C (nI o)) k) + 1) (of1 _) (ls2 := [_, _, _]) rfl ?_
      refine mJ_iinc dX7_countOpen_30 rfl (Nat.le_of_ble_eq_true rfl) (v := nI (k + 1)) (nI_1 k) (ls2 := [_, _, _]) rfl ?_
      refine mJ_goto 4 dX7_countOpen_33 rfl ?_
      rw [show cP (fun o => q_open C (nI o)) k + 1 = cP (fun o => q_open C (nI o)) (k + 1) from (iif_t b_21).symm]
      exact ih (k + 1) (by omega)
    · refine mJ_if_eq 30 dX7_countOpen_24 rfl (fun _ => ?_) (fun c => absurd c (by decide))
      refine mJ_iinc dX7_countOpen_30 rfl (Nat.le_of_ble_eq_true rfl) (v := nI (k + 1)) (nI_1 k) (ls2 := [_, _, _]) rfl ?_
      refine mJ_goto 4 dX7_countOpen_33 rfl ?_
      rw [show cP (fun o => q_open C (nI o)) k = cP (fun o => q_open C (nI o)) (k + 1) from (iif_f b_21).symm]
      exact ih (k + 1) (by omega)
set_option maxHeartbeats 4000000 in
set_option maxRecDepth 100000 in
theorem C_X7_countOpen {C : aF} {Hs : tH} {T1 : tT} {P1 : tP} {Od : tO} {T2 : tT} {P2 : tP} {RS SD XS YS OR : aF} {shn : Int32} {nH : Nat} (h5 : gG C 5 = nI nH) (hl : nH ≤ 12) : mCt k_X7_countOpen [.ref 0] (cH C Hs (RS, SD, XS, YS, OR, shn) T1 P1 Od T2 P2) (some (.int (cP (fun o => q_open C (nI o)) nH))) (cH C Hs (RS, SD, XS, YS, OR, shn) T1 P1 Od T2 P2) := by
  refine mCt_intro (plainFor_of_name rfl) (Nat.le_of_ble_eq_true rfl) (m_all rfl) (ls := [_, _, _]) rfl ?_
  refine mJ_iconst (v := 0) dX7_countOpen_0 rfl ?_
  refine mJ_istore_n dX7_countOpen_1 (Nat.le_of_ble_eq_true rfl) (ls2 := [_, _, _]) rfl ?_
  refine mJ_iconst (v := 0) dX7_countOpen_2 rfl ?_
  refine mJ_istore_n dX7_countOpen_3 (Nat.le_of_ble_eq_true rfl) (ls2 := [_, _, _]) rfl ?_
  exact L_X7_countOpen h5 hl nH 0 (by omega)
set_option maxHeartbeats 4000000 in
set_option maxRecDepth 100000 in
theorem L_X7_countRemembered {C : aF} {Hs : tH} {T1 : tT} {P1 : tP} {Od : tO} {T2 : tT} {P2 : tP} {RS SD XS YS OR : aF} {shn : Int32} {nH : Nat} (h5 : gG C 5 = nI nH) (hl : nH ≤ 12) : ∀ (m k : Nat), k + m = nH → mJ k_X7_countRemembered 4 [.ref 0, .int (cP (fun o => ¬ gH C (nI o) 9 = -1) k), .int (nI k)] [] (cH C Hs (RS, SD, XS, YS, OR, shn) T1 P1 Od T2 P2) (some (.int (cP (fun o => ¬ gH C (nI o) 9 = -1) nH))) (cH C Hs (RS, SD, XS, YS, OR, shn) T1 P1 Od T2 P2) := by
  intro m
  induction m with
  | zero =>
    intro k hk
    refine mJ_iload_n dX7_countRemembered_4 rfl ?_
    refine mJ_aload_n dX7_countRemembered_5 rfl ?_
    refine mJ_get dX7_countRemembered_6 f_X7_12 rfl rfl ?_
    refine mJ_iconst (v := 5) dX7_countRemembered_9 rfl ?_
    refine mJ_cV1i dX7_countRemembered_10 e_X5_get n_X7_80 ⟨Nat.le_of_ble_eq_true rfl, Nat.le_of_ble_eq_true rfl⟩ rfl rfl (Nat.le_of_ble_eq_true rfl) (C_X5_get) ?_
    refine mJ_icmp_ge 39 dX7_countRemembered_13 rfl (fun c_13 => ?_) (fun c_13 => False.elim (by exact c_13 (by rw [h5, show k = nH by omega]; exact Int32.le_refl _)))
    refine mJ_iload_n dX7_countRemembered_39 rfl ?_
    exact mJ_iret dX7_countRemembered_40 rfl (by rw [show k = nH by omega]) (rfl)
  | succ m ih =>
    intro k hk
    refine mJ_iload_n dX7_countRemembered_4 rfl ?_
    refine mJ_aload_n dX7_countRemembered_5 rfl ?_
    refine mJ_get dX7_countRemembered_6 f_X7_12 rfl rfl ?_
    refine mJ_iconst (v := 5) dX7_countRemembered_9 rfl ?_
    refine mJ_cV1i dX7_countRemembered_10 e_X5_get n_X7_80 ⟨Nat.le_of_ble_eq_true rfl, Nat.le_of_ble_eq_true rfl⟩ rfl rfl (Nat.le_of_ble_eq_true rfl) (C_X5_get) ?_
    refine mJ_icmp_ge 39 dX7_countRemembered_13 rfl (fun c_13 => False.elim (by rw [h5] at c_13; exact nI_ge (show k < nH by omega) (by omega) c_13)) (fun c_13 => ?_)
    refine mJ_aload_n dX7_countRemembered_16 rfl ?_
    refine mJ_get dX7_countRemembered_17 f_X7_12 rfl rfl ?_
    refine mJ_iload_n dX7_countRemembered_20 rfl ?_
    refine mJ_bipush (v := 9) dX7_countRemembered_21 rfl ?_
    refine mJ_cV2i dX7_countRemembered_23 e_X5_hintValue n_X7_146 ⟨Nat.le_of_ble_eq_true rfl, Nat.le_of_ble_eq_true rfl⟩ rfl rfl (Nat.le_of_ble_eq_true rfl) (C_X5_hintValue) ?_
    refine mJ_iconst (v := (-1)) dX7_countRemembered_26 rfl ?_
    refine mJ_icmp_eq 33 dX7_countRemembered_27 rfl (fun c_27 => ?_) (fun c_27 => ?_)
    · refine mJ_iinc dX7_countRemembered_33 rfl (Nat.le_of_ble_eq_true rfl) (v := nI (k + 1)) (nI_1 k) (ls2 := [_, _, _]) rfl ?_
      refine mJ_goto 4 dX7_countRemembered_36 rfl ?_
      rw [show cP (fun o => ¬ gH C (nI o) 9 = -1) k = cP (fun o => ¬ gH C (nI o) 9 = -1) (k + 1) from (iif_f (fun z => z c_27)).symm]
      exact ih (k + 1) (by omega)
    · refine mJ_iinc dX7_countRemembered_30 rfl (Nat.le_of_ble_eq_true rfl) (v := (cP (fun o => ¬ gH C (nI o) 9 = -1) k) + 1) (of1 _) (ls2 := [_, _, _]) rfl ?_
      refine mJ_iinc dX7_countRemembered_33 rfl (Nat.le_of_ble_eq_true rfl) (v := nI (k + 1)) (nI_1 k) (ls2 := [_, _, _]) rfl ?_
      refine mJ_goto 4 dX7_countRemembered_36 rfl ?_
      rw [show cP (fun o => ¬ gH C (nI o) 9 = -1) k + 1 = cP (fun o => ¬ gH C (nI o) 9 = -1) (k + 1) from (iif_t c_27).symm]
      exact ih (k + 1) (by omega)
set_option maxHeartbeats 4000000 in
set_option maxRecDepth 100000 in
theorem C_X7_countRemembered {C : aF} {Hs : tH} {T1 : tT} {P1 : tP} {Od : tO} {T2 : tT} {P2 : tP} {RS SD XS YS OR : aF} {shn : Int32} {nH : Nat} (h5 : gG C 5 = nI nH) (hl : nH ≤ 12) : mCt k_X7_countRemembered [.ref 0] (cH C Hs (RS, SD, XS, YS, OR, shn) T1 P1 Od T2 P2) (some (.int (cP (fun o => ¬ gH C (nI o) 9 = -1) nH))) (cH C Hs (RS, SD, XS, YS, OR, shn) T1 P1 Od T2 P2) := by
  refine mCt_intro (plainFor_of_name rfl) (Nat.le_of_ble_eq_true rfl) (m_all rfl) (ls := [_, _, _]) rfl ?_
  refine mJ_iconst (v := 0) dX7_countRemembered_0 rfl ?_
  refine mJ_istore_n dX7_countRemembered_1 (Nat.le_of_ble_eq_true rfl) (ls2 := [_, _, _]) rfl ?_
  refine mJ_iconst (v := 0) dX7_countRemembered_2 rfl ?_
  refine mJ_istore_n dX7_countRemembered_3 (Nat.le_of_ble_eq_true rfl) (ls2 := [_, _, _]) rfl ?_
  exact L_X7_countRemembered h5 hl nH 0 (by omega)
set_option maxHeartbeats 4000000 in
set_option maxRecDepth 100000 in
theorem L_X7_countHintsOf_0 {C : aF} {Hs : tH} {T1 : tT} {P1 : tP} {Od : tO} {T2 : tT} {P2 : tP} {RS SD XS YS OR : aF} {shn : Int32} {nH : Nat} (h5 : gG C 5 = nI nH) (hl : nH ≤ 12) {v : Int32} : ∀ (m k : Nat) (x5 : Value), k + m = nH → mJ k_X7_countHintsOf 5 [.ref 0, .int v, .int 0, .int (cP (fun o => gH C (nI o) 0 = v) k), .int (nI k), x5] [] (cH C Hs (RS, SD, XS, YS, OR, shn) T1 P1 Od T2 P2) (some (.int (cP (fun o => gH C (nI o) 0 = v) nH))) (cH C Hs (RS, SD, XS, YS, OR, shn) T1 P1 Od T2 P2) := by
  intro m
  induction m with
  | zero =>
    intro k x5 hk
    refine mJ_iload dX7_countHintsOf_5 rfl ?_
    refine mJ_aload_n dX7_countHintsOf_7 rfl ?_
    refine mJ_get dX7_countHintsOf_8 f_X7_12 rfl rfl ?_
    refine mJ_iconst (v := 5) dX7_countHintsOf_11 rfl ?_
    refine mJ_cV1i dX7_countHintsOf_12 e_X5_get n_X7_80 ⟨Nat.le_of_ble_eq_true rfl, Nat.le_of_ble_eq_true rfl⟩ rfl rfl (Nat.le_of_ble_eq_true rfl) (C_X5_get) ?_
    refine mJ_icmp_ge 72 dX7_countHintsOf_15 rfl (fun c_15 => ?_) (fun c_15 => False.elim (by exact c_15 (by rw [h5, show k = nH by omega]; exact Int32.le_refl _)))
    refine mJ_iload_n dX7_countHintsOf_72 rfl ?_
    exact mJ_iret dX7_countHintsOf_73 rfl (by rw [show k = nH by omega]) (rfl)
  | succ m ih =>
    intro k x5 hk
    refine mJ_iload dX7_countHintsOf_5 rfl ?_
    refine mJ_aload_n dX7_countHintsOf_7 rfl ?_
    refine mJ_get dX7_countHintsOf_8 f_X7_12 rfl rfl ?_
    refine mJ_iconst (v := 5) dX7_countHintsOf_11 rfl ?_
    refine mJ_cV1i dX7_countHintsOf_12 e_X5_get n_X7_80 ⟨Nat.le_of_ble_eq_true rfl, Nat.le_of_ble_eq_true rfl⟩ rfl rfl (Nat.le_of_ble_eq_true rfl) (C_X5_get) ?_
    refine mJ_icmp_ge 72 dX7_countHintsOf_15 rfl (fun c_15 => False.elim (by rw [h5] at c_15; exact nI_ge (show k < nH by omega) (by omega) c_15)) (fun c_15 => ?_)
    refine mJ_iload_n dX7_countHintsOf_18 rfl ?_
    refine mJ_if_eq 37 dX7_countHintsOf_19 rfl (fun _ => ?_) (fun c => absurd c (by decide))
    refine mJ_iconst (v := 1) dX7_countHintsOf_37 rfl ?_
    refine mJ_goto 42 dX7_countHintsOf_38 rfl ?_
    refine mJ_istore dX7_countHintsOf_42 (Nat.le_of_ble_eq_true rfl) (ls2 := [_, _, _, _, _, _]) rfl ?_
    refine mJ_iload dX7_countHintsOf_44 rfl ?_
    refine mJ_if_eq 66 dX7_countHintsOf_46 rfl (fun c => absurd c (by decide)) (fun _ => ?_)
    refine mJ_aload_n dX7_countHintsOf_49 rfl ?_
    refine mJ_get dX7_countHintsOf_50 f_X7_12 rfl rfl ?_
    refine mJ_iload dX7_countHintsOf_53 rfl ?_
    refine mJ_iconst (v := 0) dX7_countHintsOf_55 rfl ?_
    refine mJ_cV2i dX7_countHintsOf_56 e_X5_hintValue n_X7_146 ⟨Nat.le_of_ble_eq_true rfl, Nat.le_of_ble_eq_true rfl⟩ rfl rfl (Nat.le_of_ble_eq_true rfl) (C_X5_hintValue) ?_
    refine mJ_iload_n dX7_countHintsOf_59 rfl ?_
    refine mJ_icmp_ne 66 dX7_countHintsOf_60 rfl (fun c_60 => ?_) (fun c_60 => ?_)
    · refine mJ_iinc dX7_countHintsOf_66 rfl (Nat.le_of_ble_eq_true rfl) (v := nI (k + 1)) (nI_1 k) (ls2 := [_, _, _, _, _, _]) rfl ?_
      refine mJ_goto 5 dX7_countHintsOf_69 rfl ?_
      rw [show cP (fun o => gH C (nI o) 0 = v) k = cP (fun o => gH C (nI o) 0 = v) (k + 1) from (iif_f (fun z => c_60 z)).symm]
      exact ih (k + 1) _ (by omega)
    · refine mJ_iinc dX7_countHintsOf_63 rfl (Nat.le_of_ble_eq_true rfl) (v := (cP (fun o => gH C (nI o) 0 = v) k) + 1) (of1 _) (ls2 := [_, _, _, _, _, _]) rfl ?_
      refine mJ_iinc dX7_countHintsOf_66 rfl (Nat.le_of_ble_eq_true rfl) (v := nI (k + 1)) (nI_1 k) (ls2 := [_, _, _, _, _, _]) rfl ?_
      refine mJ_goto 5 dX7_countHintsOf_69 rfl ?_
      rw [show cP (fun o => gH C (nI o) 0 = v) k + 1 = cP (fun o => gH C (nI o) 0 = v) (k + 1) from (iif_t c_60).symm]
      exact ih (k + 1) _ (by omega)
set_option maxHeartbeats 4000000 in
set_option maxRecDepth 100000 in
theorem C_X7_countHintsOf_0 {C : aF} {Hs : tH} {T1 : tT} {P1 : tP} {Od : tO} {T2 : tT} {P2 : tP} {RS SD XS YS OR : aF} {shn : Int32} {nH : Nat} (h5 : gG C 5 = nI nH) (hl : nH ≤ 12) {v : Int32} : mCt k_X7_countHintsOf [.ref 0, .int v, .int 0] (cH C Hs (RS, SD, XS, YS, OR, shn) T1 P1 Od T2 P2) (some (.int (cP (fun o => gH C (nI o) 0 = v) nH))) (cH C Hs (RS, SD, XS, YS, OR, shn) T1 P1 Od T2 P2) := by
  refine mCt_intro (plainFor_of_name rfl) (Nat.le_of_ble_eq_true rfl) (m_all rfl) (ls := [_, _, _, _, _, _]) rfl ?_
  refine mJ_iconst (v := 0) dX7_countHintsOf_0 rfl ?_
  refine mJ_istore_n dX7_countHintsOf_1 (Nat.le_of_ble_eq_true rfl) (ls2 := [_, _, _, _, _, _]) rfl ?_
  refine mJ_iconst (v := 0) dX7_countHintsOf_2 rfl ?_
  refine mJ_istore dX7_countHintsOf_3 (Nat.le_of_ble_eq_true rfl) (ls2 := [_, _, _, _, _, _]) rfl ?_
  exact L_X7_countHintsOf_0 h5 hl nH 0 _ (by omega)
set_option maxHeartbeats 4000000 in
set_option maxRecDepth 100000 in
theorem L_X7_countHintsOf_1 {C : aF} {Hs : tH} {T1 : tT} {P1 : tP} {Od : tO} {T2 : tT} {P2 : tP} {RS SD XS YS OR : aF} {shn : Int32} {nH : Nat} (h5 : gG C 5 = nI nH) (hl : nH ≤ 12) {v : Int32} : ∀ (m k : Nat) (x5 : Value), k + m = nH → mJ k_X7_countHintsOf 5 [.ref 0, .int v, .int 1, .int (cP (fun o => RS o = 0 ∧ gH C (nI o) 0 = v) k), .int (nI k), x5] [] (cH C Hs (RS, SD, XS, YS, OR, shn) T1 P1 Od T2 P2) (some (.int (cP (fun o => RS o = 0 ∧ gH C (nI o) 0 = v) nH))) (cH C Hs (RS, SD, XS, YS, OR, shn) T1 P1 Od T2 P2) := by
  intro m
  induction m with
  | zero =>
    intro k x5 hk
    refine mJ_iload dX7_countHintsOf_5 rfl ?_
    refine mJ_aload_n dX7_countHintsOf_7 rfl ?_
    refine mJ_get dX7_countHintsOf_8 f_X7_12 rfl rfl ?_
    refine mJ_iconst (v := 5) dX7_countHintsOf_11 rfl ?_
    refine mJ_cV1i dX7_countHintsOf_12 e_X5_get n_X7_80 ⟨Nat.le_of_ble_eq_true rfl, Nat.le_of_ble_eq_true rfl⟩ rfl rfl (Nat.le_of_ble_eq_true rfl) (C_X5_get) ?_
    refine mJ_icmp_ge 72 dX7_countHintsOf_15 rfl (fun c_15 => ?_) (fun c_15 => False.elim (by exact c_15 (by rw [h5, show k = nH by omega]; exact Int32.le_refl _)))
    refine mJ_iload_n dX7_countHintsOf_72 rfl ?_
    exact mJ_iret dX7_countHintsOf_73 rfl (by rw [show k = nH by omega]) (rfl)
  | succ m ih =>
    intro k x5 hk
    refine mJ_iload dX7_countHintsOf_5 rfl ?_
    refine mJ_aload_n dX7_countHintsOf_7 rfl ?_
    refine mJ_get dX7_countHintsOf_8 f_X7_12 rfl rfl ?_
    refine mJ_iconst (v := 5) dX7_countHintsOf_11 rfl ?_
    refine mJ_cV1i dX7_countHintsOf_12 e_X5_get n_X7_80 ⟨Nat.le_of_ble_eq_true rfl, Nat.le_of_ble_eq_true rfl⟩ rfl rfl (Nat.le_of_ble_eq_true rfl) (C_X5_get) ?_
    refine mJ_icmp_ge 72 dX7_countHintsOf_15 rfl (fun c_15 => False.elim (by rw [h5] at c_15; exact nI_ge (show k < nH by omega) (by omega) c_15)) (fun c_15 => ?_)
    refine mJ_iload_n dX7_countHintsOf_18 rfl ?_
    refine mJ_if_eq 37 dX7_countHintsOf_19 rfl (fun c => absurd c (by decide)) (fun _ => ?_)
    refine mJ_aload_n dX7_countHintsOf_22 rfl ?_
    refine mJ_get dX7_countHintsOf_23 f_X7_26 rfl rfl ?_
    refine mJ_get dX7_countHintsOf_26 f_X7_156 rfl rfl ?_
    refine mJ_iload dX7_countHintsOf_29 rfl ?_
    refine mJ_cV1i dX7_countHintsOf_31 e_X3_get n_X7_160 ⟨Nat.le_of_ble_eq_true rfl, Nat.le_of_ble_eq_true rfl⟩ rfl rfl (Nat.le_of_ble_eq_true rfl) (C_X3_get rfl rfl (Nat.le_of_ble_eq_true rfl)) ?_
    refine mJ_top (rg_in RS (show k < 12 by omega) (by decide)) ?_
    refine mJ_if_ne 41 dX7_countHintsOf_34 rfl (fun c_34 => ?_) (fun c_34 => ?_)
    · refine mJ_iconst (v := 0) dX7_countHintsOf_41 rfl ?_
      refine mJ_istore dX7_countHintsOf_42 (Nat.le_of_ble_eq_true rfl) (ls2 := [_, _, _, _, _, _]) rfl ?_
      refine mJ_iload dX7_countHintsOf_44 rfl ?_
      refine mJ_if_eq 66 dX7_countHintsOf_46 rfl (fun _ => ?_) (fun c => absurd c (by decide))
      refine mJ_iinc dX7_countHintsOf_66 rfl (Nat.le_of_ble_eq_true rfl) (v := nI (k + 1)) (nI_1 k) (ls2 := [_, _, _, _, _, _]) rfl ?_
      refine mJ_goto 5 dX7_countHintsOf_69 rfl ?_
      rw [show cP (fun o => RS o = 0 ∧ gH C (nI o) 0 = v) k = cP (fun o => RS o = 0 ∧ gH C (nI o) 0 = v) (k + 1) from (iif_f (fun z => c_34 z.1)).symm]
      exact ih (k + 1) _ (by omega)
    · refine mJ_iconst (v := 1) dX7_countHintsOf_37 rfl ?_
      refine mJ_goto 42 dX7_countHintsOf_38 rfl ?_
      refine mJ_istore dX7_countHintsOf_42 (Nat.le_of_ble_eq_true rfl) (ls2 := [_, _, _, _, _, _]) rfl ?_
      refine mJ_iload dX7_countHintsOf_44 rfl ?_
      refine mJ_if_eq 66 dX7_countHintsOf_46 rfl (fun c => absurd c (by decide)) (fun _ => ?_)
      refine mJ_aload_n dX7_countHintsOf_49 rfl ?_
      refine mJ_get dX7_countHintsOf_50 f_X7_12 rfl rfl ?_
      refine mJ_iload dX7_countHintsOf_53 rfl ?_
      refine mJ_iconst (v := 0) dX7_countHintsOf_55 rfl ?_
      refine mJ_cV2i dX7_countHintsOf_56 e_X5_hintValue n_X7_146 ⟨Nat.le_of_ble_eq_true rfl, Nat.le_of_ble_eq_true rfl⟩ rfl rfl (Nat.le_of_ble_eq_true rfl) (C_X5_hintValue) ?_
      refine mJ_iload_n dX7_countHintsOf_59 rfl ?_
      refine mJ_icmp_ne 66 dX7_countHintsOf_60 rfl (fun c_60 => ?_) (fun c_60 => ?_)
      · refine mJ_iinc dX7_countHintsOf_66 rfl (Nat.le_of_ble_eq_true rfl) (v := nI (k + 1)) (nI_1 k) (ls2 := [_, _, _, _, _, _]) rfl ?_
        refine mJ_goto 5 dX7_countHintsOf_69 rfl ?_
        rw [show cP (fun o => RS o = 0 ∧ gH C (nI o) 0 = v) k = cP (fun o => RS o = 0 ∧ gH C (nI o) 0 = v) (k + 1) from (iif_f (fun z => c_60 z.2)).symm]
        exact ih (k + 1) _ (by omega)
      · refine mJ_iinc dX7_countHintsOf_63 rfl (Nat.le_of_ble_eq_true rfl) (v := (cP (fun o => RS o = 0 ∧ gH C (nI o) 0 = v) k) + 1) (of1 _) (ls2 := [_, _, _, _, _, _]) rfl ?_
        refine mJ_iinc dX7_countHintsOf_66 rfl (Nat.le_of_ble_eq_true rfl) (v := nI (k + 1)) (nI_1 k) (ls2 := [_, _, _, _, _, _]) rfl ?_
        refine mJ_goto 5 dX7_countHintsOf_69 rfl ?_
        rw [show cP (fun o => RS o = 0 ∧ gH C (nI o) 0 = v) k + 1 = cP (fun o => RS o = 0 ∧ gH C (nI o) 0 = v) (k + 1) from (iif_t ⟨c_34, c_60⟩).symm]
        exact ih (k + 1) _ (by omega)
set_option maxHeartbeats 4000000 in
set_option maxRecDepth 100000 in
theorem C_X7_countHintsOf_1 {C : aF} {Hs : tH} {T1 : tT} {P1 : tP} {Od : tO} {T2 : tT} {P2 : tP} {RS SD XS YS OR : aF} {shn : Int32} {nH : Nat} (h5 : gG C 5 = nI nH) (hl : nH ≤ 12) {v : Int32} : mCt k_X7_countHintsOf [.ref 0, .int v, .int 1] (cH C Hs (RS, SD, XS, YS, OR, shn) T1 P1 Od T2 P2) (some (.int (cP (fun o => RS o = 0 ∧ gH C (nI o) 0 = v) nH))) (cH C Hs (RS, SD, XS, YS, OR, shn) T1 P1 Od T2 P2) := by
  refine mCt_intro (plainFor_of_name rfl) (Nat.le_of_ble_eq_true rfl) (m_all rfl) (ls := [_, _, _, _, _, _]) rfl ?_
  refine mJ_iconst (v := 0) dX7_countHintsOf_0 rfl ?_
  refine mJ_istore_n dX7_countHintsOf_1 (Nat.le_of_ble_eq_true rfl) (ls2 := [_, _, _, _, _, _]) rfl ?_
  refine mJ_iconst (v := 0) dX7_countHintsOf_2 rfl ?_
  refine mJ_istore dX7_countHintsOf_3 (Nat.le_of_ble_eq_true rfl) (ls2 := [_, _, _, _, _, _]) rfl ?_
  exact L_X7_countHintsOf_1 h5 hl nH 0 _ (by omega)
set_option maxHeartbeats 4000000 in
set_option maxRecDepth 100000 in
theorem L_X7_countCovered {C : aF} {Hs : tH} {T1 : tT} {P1 : tP} {Od : tO} {T2 : tT} {P2 : tP} {RS SD XS YS OR : aF} {shn : Int32} {nH : Nat} (h5 : gG C 5 = nI nH) (hl : nH ≤ 12) : ∀ (m k : Nat), k + m = nH → mJ k_X7_countCovered 4 [.ref 0, .int (cS (fun o => RS o = 0) (fun o => gH C (nI o) 1 * gH C (nI o) 2) k), .int (nI k)] [] (cH C Hs (RS, SD, XS, YS, OR, shn) T1 P1 Od T2 P2) (some (.int (cS (fun o => RS o = 0) (fun o => gH C (nI o) 1 * gH C (nI o) 2) nH))) (cH C Hs (RS, SD, XS, YS, OR, shn) T1 P1 Od T2 P2) := by
  intro m
  induction m with
  | zero =>
    intro k hk
    refine mJ_iload_n dX7_countCovered_4 rfl ?_
    refine mJ_aload_n dX7_countCovered_5 rfl ?_
    refine mJ_get dX7_countCovered_6 f_X7_12 rfl rfl ?_
    refine mJ_iconst (v := 5) dX7_countCovered_9 rfl ?_
    refine mJ_cV1i dX7_countCovered_10 e_X5_get n_X7_80 ⟨Nat.le_of_ble_eq_true rfl, Nat.le_of_ble_eq_true rfl⟩ rfl rfl (Nat.le_of_ble_eq_true rfl) (C_X5_get) ?_
    refine mJ_icmp_ge 58 dX7_countCovered_13 rfl (fun c_13 => ?_) (fun c_13 => False.elim (by exact c_13 (by rw [h5, show k = nH by omega]; exact Int32.le_refl _)))
    refine mJ_iload_n dX7_countCovered_58 rfl ?_
    exact mJ_iret dX7_countCovered_59 rfl (by rw [show k = nH by omega]) (rfl)
  | succ m ih =>
    intro k hk
    refine mJ_iload_n dX7_countCovered_4 rfl ?_
    refine mJ_aload_n dX7_countCovered_5 rfl ?_
    refine mJ_get dX7_countCovered_6 f_X7_12 rfl rfl ?_
    refine mJ_iconst (v := 5) dX7_countCovered_9 rfl ?_
    refine mJ_cV1i dX7_countCovered_10 e_X5_get n_X7_80 ⟨Nat.le_of_ble_eq_true rfl, Nat.le_of_ble_eq_true rfl⟩ rfl rfl (Nat.le_of_ble_eq_true rfl) (C_X5_get) ?_
    refine mJ_icmp_ge 58 dX7_countCovered_13 rfl (fun c_13 => False.elim (by rw [h5] at c_13; exact nI_ge (show k < nH by omega) (by omega) c_13)) (fun c_13 => ?_)
    refine mJ_aload_n dX7_countCovered_16 rfl ?_
    refine mJ_get dX7_countCovered_17 f_X7_26 rfl rfl ?_
    refine mJ_get dX7_countCovered_20 f_X7_156 rfl rfl ?_
    refine mJ_iload_n dX7_countCovered_23 rfl ?_
    refine mJ_cV1i dX7_countCovered_24 e_X3_get n_X7_160 ⟨Nat.le_of_ble_eq_true rfl, Nat.le_of_ble_eq_true rfl⟩ rfl rfl (Nat.le_of_ble_eq_true rfl) (C_X3_get rfl rfl (Nat.le_of_ble_eq_true rfl)) ?_
    refine mJ_top (rg_in RS (show k < 12 by omega) (by decide)) ?_
    refine mJ_if_ne 52 dX7_countCovered_27 rfl (fun c_27 => ?_) (fun c_27 => ?_)
    · refine mJ_iinc dX7_countCovered_52 rfl (Nat.le_of_ble_eq_true rfl) (v := nI (k + 1)) (nI_1 k) (ls2 := [_, _, _]) rfl ?_
      refine mJ_goto 4 dX7_countCovered_55 rfl ?_
      rw [show cS (fun o => RS o = 0) (fun o => gH C (nI o) 1 * gH C (nI o) 2) k = cS (fun o => RS o = 0) (fun o => gH C (nI o) 1 * gH C (nI o) 2) (k + 1) from (iif_f c_27).symm]
      exact ih (k + 1) (by omega)
    · refine mJ_iload_n dX7_countCovered_30 rfl ?_
      refine mJ_aload_n dX7_countCovered_31 rfl ?_
      refine mJ_get dX7_countCovered_32 f_X7_12 rfl rfl ?_
      refine mJ_iload_n dX7_countCovered_35 rfl ?_
      refine mJ_iconst (v := 1) dX7_countCovered_36 rfl ?_
      refine mJ_cV2i dX7_countCovered_37 e_X5_hintValue n_X7_146 ⟨Nat.le_of_ble_eq_true rfl, Nat.le_of_ble_eq_true rfl⟩ rfl rfl (Nat.le_of_ble_eq_true rfl) (C_X5_hintValue) ?_
      refine mJ_aload_n dX7_countCovered_40 rfl ?_
      refine mJ_get dX7_countCovered_41 f_X7_12 rfl rfl ?_
      refine mJ_iload_n dX7_countCovered_44 rfl ?_
      refine mJ_iconst (v := 2) dX7_countCovered_45 rfl ?_
      refine mJ_cV2i dX7_countCovered_46 e_X5_hintValue n_X7_146 ⟨Nat.le_of_ble_eq_true rfl, Nat.le_of_ble_eq_true rfl⟩ rfl rfl (Nat.le_of_ble_eq_true rfl) (C_X5_hintValue) ?_
      refine mJ_imul dX7_countCovered_49 ?_
      refine mJ_iadd dX7_countCovered_50 ?_
      refine mJ_istore_n dX7_countCovered_51 (Nat.le_of_ble_eq_true rfl) (ls2 := [_, _, _]) rfl ?_
      refine mJ_iinc dX7_countCovered_52 rfl (Nat.le_of_ble_eq_true rfl) (v := nI (k + 1)) (nI_1 k) (ls2 := [_, _, _]) rfl ?_
      refine mJ_goto 4 dX7_countCovered_55 rfl ?_
      rw [show cS (fun o => RS o = 0) (fun o => gH C (nI o) 1 * gH C (nI o) 2) k + gH C (nI k) 1 * gH C (nI k) 2 = cS (fun o => RS o = 0) (fun o => gH C (nI o) 1 * gH C (nI o) 2) (k + 1) from (iif_t c_27).symm]
      exact ih (k + 1) (by omega)
set_option maxHeartbeats 4000000 in
set_option maxRecDepth 100000 in
theorem C_X7_countCovered {C : aF} {Hs : tH} {T1 : tT} {P1 : tP} {Od : tO} {T2 : tT} {P2 : tP} {RS SD XS YS OR : aF} {shn : Int32} {nH : Nat} (h5 : gG C 5 = nI nH) (hl : nH ≤ 12) : mCt k_X7_countCovered [.ref 0] (cH C Hs (RS, SD, XS, YS, OR, shn) T1 P1 Od T2 P2) (some (.int (cS (fun o => RS o = 0) (fun o => gH C (nI o) 1 * gH C (nI o) 2) nH))) (cH C Hs (RS, SD, XS, YS, OR, shn) T1 P1 Od T2 P2) := by
  refine mCt_intro (plainFor_of_name rfl) (Nat.le_of_ble_eq_true rfl) (m_all rfl) (ls := [_, _, _]) rfl ?_
  refine mJ_iconst (v := 0) dX7_countCovered_0 rfl ?_
  refine mJ_istore_n dX7_countCovered_1 (Nat.le_of_ble_eq_true rfl) (ls2 := [_, _, _]) rfl ?_
  refine mJ_iconst (v := 0) dX7_countCovered_2 rfl ?_
  refine mJ_istore_n dX7_countCovered_3 (Nat.le_of_ble_eq_true rfl) (ls2 := [_, _, _]) rfl ?_
  exact L_X7_countCovered h5 hl nH 0 (by omega)
noncomputable def rmC (C RS SD : aF) : Nat → aF
  | 0 => C
  | k + 1 => iif (RS k = 0) (sH (rmC C RS SD k) (nI k) 9 (SD k)) (rmC C RS SD k)
def rmP (C RS SD : aF) (o : Nat) : Prop := RS o = 0 ∧ ¬ gH (rmC C RS SD o) (nI o) 9 = SD o
set_option maxHeartbeats 4000000 in
set_option maxRecDepth 100000 in
theorem L_X7_rememberSides {C : aF} {Hs : tH} {T1 : tT} {P1 : tP} {Od : tO} {T2 : tT} {P2 : tP} {RS SD XS YS OR : aF} {shn : Int32} {nH : Nat} (h5 : ∀ k, k ≤ nH → gG (rmC C RS SD k) 5 = nI nH) (hl : nH ≤ 12) : ∀ (m k : Nat), k + m = nH → mJ k_X7_rememberSides 4 [.ref 0, .int (cP (rmP C RS SD) k), .int (nI k)] [] (cH (rmC C RS SD k) Hs (RS, SD, XS, YS, OR, shn) T1 P1 Od T2 P2) (some (.int (cP (rmP C RS SD) nH))) (cH (rmC C RS SD nH) Hs (RS, SD, XS, YS, OR, shn) T1 P1 Od T2 P2) := by
  intro m
  induction m with
  | zero =>
    intro k hk
    refine mJ_iload_n dX7_rememberSides_4 rfl ?_
    refine mJ_aload_n dX7_rememberSides_5 rfl ?_
    refine mJ_get dX7_rememberSides_6 f_X7_12 rfl rfl ?_
    refine mJ_iconst (v := 5) dX7_rememberSides_9 rfl ?_
    refine mJ_cV1i dX7_rememberSides_10 e_X5_get n_X7_80 ⟨Nat.le_of_ble_eq_true rfl, Nat.le_of_ble_eq_true rfl⟩ rfl rfl (Nat.le_of_ble_eq_true rfl) (C_X5_get) ?_
    refine mJ_icmp_ge 84 dX7_rememberSides_13 rfl (fun c_13 => ?_) (fun c_13 => False.elim (by exact c_13 (by rw [h5 k (by omega), show k = nH by omega]; exact Int32.le_refl _)))
    refine mJ_iload_n dX7_rememberSides_84 rfl ?_
    exact mJ_iret dX7_rememberSides_85 rfl (by rw [show k = nH by omega]) (by rw [show k = nH by omega])
  | succ m ih =>
    intro k hk
    refine mJ_iload_n dX7_rememberSides_4 rfl ?_
    refine mJ_aload_n dX7_rememberSides_5 rfl ?_
    refine mJ_get dX7_rememberSides_6 f_X7_12 rfl rfl ?_
    refine mJ_iconst (v := 5) dX7_rememberSides_9 rfl ?_
    refine mJ_cV1i dX7_rememberSides_10 e_X5_get n_X7_80 ⟨Nat.le_of_ble_eq_true rfl, Nat.le_of_ble_eq_true rfl⟩ rfl rfl (Nat.le_of_ble_eq_true rfl) (C_X5_get) ?_
    refine mJ_icmp_ge 84 dX7_rememberSides_13 rfl (fun c_13 => False.elim (by rw [h5 k (by omega)] at c_13; exact nI_ge (show k < nH by omega) (by omega) c_13)) (fun c_13 => ?_)
    refine mJ_aload_n dX7_rememberSides_16 rfl ?_
    refine mJ_get dX7_rememberSides_17 f_X7_26 rfl rfl ?_
    refine mJ_get dX7_rememberSides_20 f_X7_156 rfl rfl ?_
    refine mJ_iload_n dX7_rememberSides_23 rfl ?_
    refine mJ_cV1i dX7_rememberSides_24 e_X3_get n_X7_160 ⟨Nat.le_of_ble_eq_true rfl, Nat.le_of_ble_eq_true rfl⟩ rfl rfl (Nat.le_of_ble_eq_true rfl) (C_X3_get rfl rfl (Nat.le_of_ble_eq_true rfl)) ?_
    refine mJ_top (rg_in RS (show k < 12 by omega) (by decide)) ?_
    refine mJ_if_ne 78 dX7_rememberSides_27 rfl (fun c_27 => ?_) (fun c_27 => ?_)
    · refine mJ_iinc dX7_rememberSides_78 rfl (Nat.le_of_ble_eq_true rfl) (v := nI (k + 1)) (nI_1 k) (ls2 := [_, _, _]) rfl ?_
      refine mJ_goto 4 dX7_rememberSides_81 rfl ?_
      rw [show cP (rmP C RS SD) k = cP (rmP C RS SD) (k + 1) from (iif_f (fun z => c_27 z.1)).symm, show rmC C RS SD k = rmC C RS SD (k + 1) from (iif_f c_27).symm]
      exact ih (k + 1) (by omega)
    · refine mJ_aload_n dX7_rememberSides_30 rfl ?_
      refine mJ_get dX7_rememberSides_31 f_X7_12 rfl rfl ?_
      refine mJ_iload_n dX7_rememberSides_34 rfl ?_
      refine mJ_bipush (v := 9) dX7_rememberSides_35 rfl ?_
      refine mJ_cV2i dX7_rememberSides_37 e_X5_hintValue n_X7_146 ⟨Nat.le_of_ble_eq_true rfl, Nat.le_of_ble_eq_true rfl⟩ rfl rfl (Nat.le_of_ble_eq_true rfl) (C_X5_hintValue) ?_
      refine mJ_aload_n dX7_rememberSides_40 rfl ?_
      refine mJ_get dX7_rememberSides_41 f_X7_26 rfl rfl ?_
      refine mJ_get dX7_rememberSides_44 f_X7_239 rfl rfl ?_
      refine mJ_iload_n dX7_rememberSides_47 rfl ?_
      refine mJ_cV1i dX7_rememberSides_48 e_X3_get n_X7_160 ⟨Nat.le_of_ble_eq_true rfl, Nat.le_of_ble_eq_true rfl⟩ rfl rfl (Nat.le_of_ble_eq_true rfl) (C_X3_get rfl rfl (Nat.le_of_ble_eq_true rfl)) ?_
      refine mJ_top (rg_in SD (show k < 12 by omega) (by decide)) ?_
      refine mJ_icmp_eq 57 dX7_rememberSides_51 rfl (fun c_51 => ?_) (fun c_51 => ?_)
      · refine mJ_aload_n dX7_rememberSides_57 rfl ?_
        refine mJ_get dX7_rememberSides_58 f_X7_12 rfl rfl ?_
        refine mJ_iload_n dX7_rememberSides_61 rfl ?_
        refine mJ_bipush (v := 9) dX7_rememberSides_62 rfl ?_
        refine mJ_aload_n dX7_rememberSides_64 rfl ?_
        refine mJ_get dX7_rememberSides_65 f_X7_26 rfl rfl ?_
        refine mJ_get dX7_rememberSides_68 f_X7_239 rfl rfl ?_
        refine mJ_iload_n dX7_rememberSides_71 rfl ?_
        refine mJ_cV1i dX7_rememberSides_72 e_X3_get n_X7_160 ⟨Nat.le_of_ble_eq_true rfl, Nat.le_of_ble_eq_true rfl⟩ rfl rfl (Nat.le_of_ble_eq_true rfl) (C_X3_get rfl rfl (Nat.le_of_ble_eq_true rfl)) ?_
        refine mJ_top (rg_in SD (show k < 12 by omega) (by decide)) ?_
        refine mJ_cV3v dX7_rememberSides_75 e_X5_putHintValue n_X7_137 ⟨Nat.le_of_ble_eq_true rfl, Nat.le_of_ble_eq_true rfl⟩ rfl rfl (Nat.le_of_ble_eq_true rfl) (C_X5_putHintValue) ?_
        refine mJ_iinc dX7_rememberSides_78 rfl (Nat.le_of_ble_eq_true rfl) (v := nI (k + 1)) (nI_1 k) (ls2 := [_, _, _]) rfl ?_
        refine mJ_goto 4 dX7_rememberSides_81 rfl ?_
        rw [show sH (rmC C RS SD k) (nI k) 9 (SD k) = rmC C RS SD (k + 1) from (iif_t c_27).symm, show cP (rmP C RS SD) k = cP (rmP C RS SD) (k + 1) from (iif_f (fun z => z.2 c_51)).symm]
        exact ih (k + 1) (by omega)
      · refine mJ_iinc dX7_rememberSides_54 rfl (Nat.le_of_ble_eq_true rfl) (v := cP (rmP C RS SD) k + 1) (of1 _) (ls2 := [_, _, _]) rfl ?_
        refine mJ_aload_n dX7_rememberSides_57 rfl ?_
        refine mJ_get dX7_rememberSides_58 f_X7_12 rfl rfl ?_
        refine mJ_iload_n dX7_rememberSides_61 rfl ?_
        refine mJ_bipush (v := 9) dX7_rememberSides_62 rfl ?_
        refine mJ_aload_n dX7_rememberSides_64 rfl ?_
        refine mJ_get dX7_rememberSides_65 f_X7_26 rfl rfl ?_
        refine mJ_get dX7_rememberSides_68 f_X7_239 rfl rfl ?_
        refine mJ_iload_n dX7_rememberSides_71 rfl ?_
        refine mJ_cV1i dX7_rememberSides_72 e_X3_get n_X7_160 ⟨Nat.le_of_ble_eq_true rfl, Nat.le_of_ble_eq_true rfl⟩ rfl rfl (Nat.le_of_ble_eq_true rfl) (C_X3_get rfl rfl (Nat.le_of_ble_eq_true rfl)) ?_
        refine mJ_top (rg_in SD (show k < 12 by omega) (by decide)) ?_
        refine mJ_cV3v dX7_rememberSides_75 e_X5_putHintValue n_X7_137 ⟨Nat.le_of_ble_eq_true rfl, Nat.le_of_ble_eq_true rfl⟩ rfl rfl (Nat.le_of_ble_eq_true rfl) (C_X5_putHintValue) ?_
        refine mJ_iinc dX7_rememberSides_78 rfl (Nat.le_of_ble_eq_true rfl) (v := nI (k + 1)) (nI_1 k) (ls2 := [_, _, _]) rfl ?_
        refine mJ_goto 4 dX7_rememberSides_81 rfl ?_
        rw [show sH (rmC C RS SD k) (nI k) 9 (SD k) = rmC C RS SD (k + 1) from (iif_t c_27).symm, show cP (rmP C RS SD) k + 1 = cP (rmP C RS SD) (k + 1) from (iif_t ⟨c_27, c_51⟩).symm]
        exact ih (k + 1) (by omega)
set_option maxHeartbeats 4000000 in
set_option maxRecDepth 100000 in
theorem C_X7_rememberSides {C : aF} {Hs : tH} {T1 : tT} {P1 : tP} {Od : tO} {T2 : tT} {P2 : tP} {RS SD XS YS OR : aF} {shn : Int32} {nH : Nat} (h5 : ∀ k, k ≤ nH → gG (rmC C RS SD k) 5 = nI nH) (hl : nH ≤ 12) : mCt k_X7_rememberSides [.ref 0] (cH C Hs (RS, SD, XS, YS, OR, shn) T1 P1 Od T2 P2) (some (.int (cP (rmP C RS SD) nH))) (cH (rmC C RS SD nH) Hs (RS, SD, XS, YS, OR, shn) T1 P1 Od T2 P2) := by
  refine mCt_intro (plainFor_of_name rfl) (Nat.le_of_ble_eq_true rfl) (m_all rfl) (ls := [_, _, _]) rfl ?_
  refine mJ_iconst (v := 0) dX7_rememberSides_0 rfl ?_
  refine mJ_istore_n dX7_rememberSides_1 (Nat.le_of_ble_eq_true rfl) (ls2 := [_, _, _]) rfl ?_
  refine mJ_iconst (v := 0) dX7_rememberSides_2 rfl ?_
  refine mJ_istore_n dX7_rememberSides_3 (Nat.le_of_ble_eq_true rfl) (ls2 := [_, _, _]) rfl ?_
  exact L_X7_rememberSides h5 hl nH 0 (by omega)
set_option maxHeartbeats 4000000 in
set_option maxRecDepth 100000 in
theorem L_X7_isInSightOnATry {C : aF} {Hs : tH} {Sw : tS} {T1 : tT} {P1 : tP} {Od : tO} {T2 : tT} {L : List Int32} (hT : tL T2 L) {v x y : Int32} : ∀ (m k : Nat) (P2 : tP), k + m = L.length → (∀ j s, j < k → L[j]? = some s → ¬ f_in C v s x y) → ∃ P2' : tP, mJ k_X7_isInSightOnATry 3 [.ref 0, .int v, .int x, .int y, .int (nI k)] [] (cH C Hs Sw T1 P1 Od T2 P2) (some (.int (b2i (∃ s, s ∈ L ∧ f_in C v s x y)))) (cH C Hs Sw T1 P1 Od T2 (P2')) := by
  have ht : T2.2 = nI L.length := hT.1
  have hT4 := hT.2.1
  intro m
  induction m with
  | zero =>
    intro k P2 hk hno
    refine ⟨P2, ?_⟩
    refine mJ_iload dX7_isInSightOnATry_3 rfl ?_
    refine mJ_aload_n dX7_isInSightOnATry_5 rfl ?_
    refine mJ_get dX7_isInSightOnATry_6 f_X7_40 rfl rfl ?_
    refine mJ_get_25_1 dX7_isInSightOnATry_9 f_X7_254 ?_
    refine mJ_icmp_ge 59 dX7_isInSightOnATry_12 rfl (fun c_12 => ?_) (fun c_12 => False.elim (by exact c_12 (by rw [ht, show k = L.length by omega]; exact Int32.le_refl _)))
    refine mJ_iconst (v := 0) dX7_isInSightOnATry_59 rfl ?_
    exact mJ_zret dX7_isInSightOnATry_60 rfl (Or.inl rfl) (z_f (fun ⟨s, h1, h2⟩ => by obtain ⟨j, hj, e⟩ := List.getElem_of_mem h1; exact hno j s (by omega) (List.getElem?_eq_some_iff.mpr ⟨hj, e⟩) h2)) (rfl)
  | succ m ih =>
    intro k P2 hk0 hno
    have hk : k < L.length := by omega
    obtain ⟨s, hs1⟩ : ∃ s, L[k]? = some s := ⟨_, List.getElem?_eq_getElem hk⟩
    have htk : T2.1 k = s := hT.2.2 k s hs1
    by_cases g1 : f_in C v s x y
    · refine ⟨(f_P C v s x y), ?_⟩
      refine mJ_iload dX7_isInSightOnATry_3 rfl ?_
      refine mJ_aload_n dX7_isInSightOnATry_5 rfl ?_
      refine mJ_get dX7_isInSightOnATry_6 f_X7_40 rfl rfl ?_
      refine mJ_get_25_1 dX7_isInSightOnATry_9 f_X7_254 ?_
      refine mJ_icmp_ge 59 dX7_isInSightOnATry_12 rfl (fun c_12 => False.elim (by rw [ht] at c_12; exact nI_ge hk (by omega) c_12)) (fun c_12 => ?_)
      refine mJ_aload_n dX7_isInSightOnATry_15 rfl ?_
      refine mJ_get dX7_isInSightOnATry_16 f_X7_47 rfl rfl ?_
      refine mJ_aload_n dX7_isInSightOnATry_19 rfl ?_
      refine mJ_get dX7_isInSightOnATry_20 f_X7_12 rfl rfl ?_
      refine mJ_iload_n dX7_isInSightOnATry_23 rfl ?_
      refine mJ_aload_n dX7_isInSightOnATry_24 rfl ?_
      refine mJ_get dX7_isInSightOnATry_25 f_X7_40 rfl rfl ?_
      refine mJ_get dX7_isInSightOnATry_28 f_X7_257 rfl rfl ?_
      refine mJ_iload dX7_isInSightOnATry_31 rfl ?_
      refine mJ_cV1i dX7_isInSightOnATry_33 e_X3_get n_X7_160 ⟨Nat.le_of_ble_eq_true rfl, Nat.le_of_ble_eq_true rfl⟩ rfl rfl (Nat.le_of_ble_eq_true rfl) (C_X3_get rfl rfl (Nat.le_of_ble_eq_true rfl)) ?_
      refine mJ_top ((rg_in T2.1 (show k < 4 by omega) (by decide)).trans htk) ?_
      refine mJ_iload_n dX7_isInSightOnATry_36 rfl ?_
      refine mJ_iload_n dX7_isInSightOnATry_37 rfl ?_
      refine mJ_cV5v dX7_isInSightOnATry_38 e_X2_find n_X7_185 ⟨Nat.le_of_ble_eq_true rfl, Nat.le_of_ble_eq_true rfl⟩ rfl rfl (Nat.le_of_ble_eq_true rfl) (C_X2_find_28) ?_
      refine mJ_aload_n dX7_isInSightOnATry_41 rfl ?_
      refine mJ_get dX7_isInSightOnATry_42 f_X7_47 rfl rfl ?_
      refine mJ_get_28_5 dX7_isInSightOnATry_45 f_X7_189 ?_
      refine mJ_top (b2i_t g1) ?_
      refine mJ_if_eq 53 dX7_isInSightOnATry_48 rfl (fun c => absurd c (by decide)) (fun _ => ?_)
      refine mJ_iconst (v := 1) dX7_isInSightOnATry_51 rfl ?_
      exact mJ_zret dX7_isInSightOnATry_52 rfl (Or.inr rfl) (z_t ⟨s, List.mem_of_getElem? hs1, g1⟩) (rfl)
    · obtain ⟨P2', hj⟩ := ih (k + 1) (f_P C v s x y) (by omega) (fun j s' hj hs' => by
        by_cases e : j = k
        · subst e; rw [hs1] at hs'; cases hs'; exact g1
        · exact hno j s' (by omega) hs')
      refine ⟨P2', ?_⟩
      refine mJ_iload dX7_isInSightOnATry_3 rfl ?_
      refine mJ_aload_n dX7_isInSightOnATry_5 rfl ?_
      refine mJ_get dX7_isInSightOnATry_6 f_X7_40 rfl rfl ?_
      refine mJ_get_25_1 dX7_isInSightOnATry_9 f_X7_254 ?_
      refine mJ_icmp_ge 59 dX7_isInSightOnATry_12 rfl (fun c_12 => False.elim (by rw [ht] at c_12; exact nI_ge hk (by omega) c_12)) (fun c_12 => ?_)
      refine mJ_aload_n dX7_isInSightOnATry_15 rfl ?_
      refine mJ_get dX7_isInSightOnATry_16 f_X7_47 rfl rfl ?_
      refine mJ_aload_n dX7_isInSightOnATry_19 rfl ?_
      refine mJ_get dX7_isInSightOnATry_20 f_X7_12 rfl rfl ?_
      refine mJ_iload_n dX7_isInSightOnATry_23 rfl ?_
      refine mJ_aload_n dX7_isInSightOnATry_24 rfl ?_
      refine mJ_get dX7_isInSightOnATry_25 f_X7_40 rfl rfl ?_
      refine mJ_get dX7_isInSightOnATry_28 f_X7_257 rfl rfl ?_
      refine mJ_iload dX7_isInSightOnATry_31 rfl ?_
      refine mJ_cV1i dX7_isInSightOnATry_33 e_X3_get n_X7_160 ⟨Nat.le_of_ble_eq_true rfl, Nat.le_of_ble_eq_true rfl⟩ rfl rfl (Nat.le_of_ble_eq_true rfl) (C_X3_get rfl rfl (Nat.le_of_ble_eq_true rfl)) ?_
      refine mJ_top ((rg_in T2.1 (show k < 4 by omega) (by decide)).trans htk) ?_
      refine mJ_iload_n dX7_isInSightOnATry_36 rfl ?_
      refine mJ_iload_n dX7_isInSightOnATry_37 rfl ?_
      refine mJ_cV5v dX7_isInSightOnATry_38 e_X2_find n_X7_185 ⟨Nat.le_of_ble_eq_true rfl, Nat.le_of_ble_eq_true rfl⟩ rfl rfl (Nat.le_of_ble_eq_true rfl) (C_X2_find_28) ?_
      refine mJ_aload_n dX7_isInSightOnATry_41 rfl ?_
      refine mJ_get dX7_isInSightOnATry_42 f_X7_47 rfl rfl ?_
      refine mJ_get_28_5 dX7_isInSightOnATry_45 f_X7_189 ?_
      refine mJ_top (b2i_f g1) ?_
      refine mJ_if_eq 53 dX7_isInSightOnATry_48 rfl (fun _ => ?_) (fun c => absurd c (by decide))
      refine mJ_iinc dX7_isInSightOnATry_53 rfl (Nat.le_of_ble_eq_true rfl) (v := nI (k + 1)) (nI_1 k) (ls2 := [_, _, _, _, _]) rfl ?_
      refine mJ_goto 3 dX7_isInSightOnATry_56 rfl ?_
      exact hj
set_option maxHeartbeats 4000000 in
set_option maxRecDepth 100000 in
theorem C_X7_isInSightOnATry {C : aF} {Hs : tH} {Sw : tS} {T1 : tT} {P1 : tP} {Od : tO} {T2 : tT} {P2 : tP} {L : List Int32} (hT : tL T2 L) {v x y : Int32} : ∃ P2' : tP, mCt k_X7_isInSightOnATry [.ref 0, .int v, .int x, .int y] (cH C Hs Sw T1 P1 Od T2 P2) (some (.int (b2i (∃ s, s ∈ L ∧ f_in C v s x y)))) (cH C Hs Sw T1 P1 Od T2 (P2')) := by
  obtain ⟨P2', hj⟩ := L_X7_isInSightOnATry (C := C) (Hs := Hs) (Sw := Sw) (T1 := T1) (P1 := P1) (Od := Od) hT (v := v) (x := x) (y := y) L.length 0 P2 (by omega) (fun j s hj _ => absurd hj (by omega))
  refine ⟨P2', ?_⟩
  refine mCt_intro (plainFor_of_name rfl) (Nat.le_of_ble_eq_true rfl) (m_all rfl) (ls := [_, _, _, _, _]) rfl ?_
  refine mJ_iconst (v := 0) dX7_isInSightOnATry_0 rfl ?_
  refine mJ_istore dX7_isInSightOnATry_1 (Nat.le_of_ble_eq_true rfl) (ls2 := [_, _, _, _, _]) rfl ?_
  exact hj
set_option maxHeartbeats 4000000 in
set_option maxRecDepth 100000 in
theorem C_X7_shownValue_9 {C : aF} {Hs : tH} {T1 : tT} {P1 : tP} {Od : tO} {T2 : tT} {P2 : tP} {RS SD XS YS OR : aF} {shn : Int32} {h : Nat} {s : Int32} (hh : h < 12) (hs : SD h = s) : mCt k_X7_shownValue [.ref 0, .int (nI h), .int 9] (cH C Hs (RS, SD, XS, YS, OR, shn) T1 P1 Od T2 P2) (some (.int s)) (cH C Hs (RS, SD, XS, YS, OR, shn) T1 P1 Od T2 (f_P C (nI h) s (gG C 2) (gG C 3))) := by
  refine mCt_intro (plainFor_of_name rfl) (Nat.le_of_ble_eq_true rfl) (m_all rfl) (ls := [_, _, _, _]) rfl ?_
  refine mJ_aload_n dX7_shownValue_0 rfl ?_
  refine mJ_get dX7_shownValue_1 f_X7_26 rfl rfl ?_
  refine mJ_get dX7_shownValue_4 f_X7_239 rfl rfl ?_
  refine mJ_iload_n dX7_shownValue_7 rfl ?_
  refine mJ_cV1i dX7_shownValue_8 e_X3_get n_X7_160 ⟨Nat.le_of_ble_eq_true rfl, Nat.le_of_ble_eq_true rfl⟩ rfl rfl (Nat.le_of_ble_eq_true rfl) (C_X3_get rfl rfl (Nat.le_of_ble_eq_true rfl)) ?_
  refine mJ_top ((rg_in SD hh (by decide)).trans hs) ?_
  refine mJ_istore_n dX7_shownValue_11 (Nat.le_of_ble_eq_true rfl) (ls2 := [_, _, _, _]) rfl ?_
  refine mJ_aload_n dX7_shownValue_12 rfl ?_
  refine mJ_get dX7_shownValue_13 f_X7_47 rfl rfl ?_
  refine mJ_aload_n dX7_shownValue_16 rfl ?_
  refine mJ_get dX7_shownValue_17 f_X7_12 rfl rfl ?_
  refine mJ_iload_n dX7_shownValue_20 rfl ?_
  refine mJ_iload_n dX7_shownValue_21 rfl ?_
  refine mJ_aload_n dX7_shownValue_22 rfl ?_
  refine mJ_get dX7_shownValue_23 f_X7_12 rfl rfl ?_
  refine mJ_iconst (v := 2) dX7_shownValue_26 rfl ?_
  refine mJ_cV1i dX7_shownValue_27 e_X5_get n_X7_80 ⟨Nat.le_of_ble_eq_true rfl, Nat.le_of_ble_eq_true rfl⟩ rfl rfl (Nat.le_of_ble_eq_true rfl) (C_X5_get) ?_
  refine mJ_aload_n dX7_shownValue_30 rfl ?_
  refine mJ_get dX7_shownValue_31 f_X7_12 rfl rfl ?_
  refine mJ_iconst (v := 3) dX7_shownValue_34 rfl ?_
  refine mJ_cV1i dX7_shownValue_35 e_X5_get n_X7_80 ⟨Nat.le_of_ble_eq_true rfl, Nat.le_of_ble_eq_true rfl⟩ rfl rfl (Nat.le_of_ble_eq_true rfl) (C_X5_get) ?_
  refine mJ_cV5v dX7_shownValue_38 e_X2_find n_X7_185 ⟨Nat.le_of_ble_eq_true rfl, Nat.le_of_ble_eq_true rfl⟩ rfl rfl (Nat.le_of_ble_eq_true rfl) (C_X2_find_28) ?_
  refine mJ_iload_n dX7_shownValue_41 rfl ?_
  refine mJ_tin 76 dX7_shownValue_42 (by decide) (by decide) rfl rfl ?_
  refine mJ_iload_n dX7_shownValue_76 rfl ?_
  exact mJ_iret dX7_shownValue_77 rfl (rfl) (rfl)
set_option maxHeartbeats 4000000 in
set_option maxRecDepth 100000 in
theorem C_X7_shownValue_10 {C : aF} {Hs : tH} {T1 : tT} {P1 : tP} {Od : tO} {T2 : tT} {P2 : tP} {RS SD XS YS OR : aF} {shn : Int32} {h : Nat} {s : Int32} (hh : h < 12) (hs : SD h = s) : mCt k_X7_shownValue [.ref 0, .int (nI h), .int 10] (cH C Hs (RS, SD, XS, YS, OR, shn) T1 P1 Od T2 P2) (some (.int (f_x C (nI h) s (gG C 2) (gG C 3)))) (cH C Hs (RS, SD, XS, YS, OR, shn) T1 P1 Od T2 (f_P C (nI h) s (gG C 2) (gG C 3))) := by
  refine mCt_intro (plainFor_of_name rfl) (Nat.le_of_ble_eq_true rfl) (m_all rfl) (ls := [_, _, _, _]) rfl ?_
  refine mJ_aload_n dX7_shownValue_0 rfl ?_
  refine mJ_get dX7_shownValue_1 f_X7_26 rfl rfl ?_
  refine mJ_get dX7_shownValue_4 f_X7_239 rfl rfl ?_
  refine mJ_iload_n dX7_shownValue_7 rfl ?_
  refine mJ_cV1i dX7_shownValue_8 e_X3_get n_X7_160 ⟨Nat.le_of_ble_eq_true rfl, Nat.le_of_ble_eq_true rfl⟩ rfl rfl (Nat.le_of_ble_eq_true rfl) (C_X3_get rfl rfl (Nat.le_of_ble_eq_true rfl)) ?_
  refine mJ_top ((rg_in SD hh (by decide)).trans hs) ?_
  refine mJ_istore_n dX7_shownValue_11 (Nat.le_of_ble_eq_true rfl) (ls2 := [_, _, _, _]) rfl ?_
  refine mJ_aload_n dX7_shownValue_12 rfl ?_
  refine mJ_get dX7_shownValue_13 f_X7_47 rfl rfl ?_
  refine mJ_aload_n dX7_shownValue_16 rfl ?_
  refine mJ_get dX7_shownValue_17 f_X7_12 rfl rfl ?_
  refine mJ_iload_n dX7_shownValue_20 rfl ?_
  refine mJ_iload_n dX7_shownValue_21 rfl ?_
  refine mJ_aload_n dX7_shownValue_22 rfl ?_
  refine mJ_get dX7_shownValue_23 f_X7_12 rfl rfl ?_
  refine mJ_iconst (v := 2) dX7_shownValue_26 rfl ?_
  refine mJ_cV1i dX7_shownValue_27 e_X5_get n_X7_80 ⟨Nat.le_of_ble_eq_true rfl, Nat.le_of_ble_eq_true rfl⟩ rfl rfl (Nat.le_of_ble_eq_true rfl) (C_X5_get) ?_
  refine mJ_aload_n dX7_shownValue_30 rfl ?_
  refine mJ_get dX7_shownValue_31 f_X7_12 rfl rfl ?_
  refine mJ_iconst (v := 3) dX7_shownValue_34 rfl ?_
  refine mJ_cV1i dX7_shownValue_35 e_X5_get n_X7_80 ⟨Nat.le_of_ble_eq_true rfl, Nat.le_of_ble_eq_true rfl⟩ rfl rfl (Nat.le_of_ble_eq_true rfl) (C_X5_get) ?_
  refine mJ_cV5v dX7_shownValue_38 e_X2_find n_X7_185 ⟨Nat.le_of_ble_eq_true rfl, Nat.le_of_ble_eq_true rfl⟩ rfl rfl (Nat.le_of_ble_eq_true rfl) (C_X2_find_28) ?_
  refine mJ_iload_n dX7_shownValue_41 rfl ?_
  refine mJ_tin 78 dX7_shownValue_42 (by decide) (by decide) rfl rfl ?_
  refine mJ_aload_n dX7_shownValue_78 rfl ?_
  refine mJ_get dX7_shownValue_79 f_X7_47 rfl rfl ?_
  refine mJ_get_28_0 dX7_shownValue_82 f_X7_193 ?_
  exact mJ_iret dX7_shownValue_85 rfl (rfl) (rfl)
set_option maxHeartbeats 4000000 in
set_option maxRecDepth 100000 in
theorem C_X7_shownValue_11 {C : aF} {Hs : tH} {T1 : tT} {P1 : tP} {Od : tO} {T2 : tT} {P2 : tP} {RS SD XS YS OR : aF} {shn : Int32} {h : Nat} {s : Int32} (hh : h < 12) (hs : SD h = s) : mCt k_X7_shownValue [.ref 0, .int (nI h), .int 11] (cH C Hs (RS, SD, XS, YS, OR, shn) T1 P1 Od T2 P2) (some (.int (f_y C (nI h) s (gG C 2) (gG C 3)))) (cH C Hs (RS, SD, XS, YS, OR, shn) T1 P1 Od T2 (f_P C (nI h) s (gG C 2) (gG C 3))) := by
  refine mCt_intro (plainFor_of_name rfl) (Nat.le_of_ble_eq_true rfl) (m_all rfl) (ls := [_, _, _, _]) rfl ?_
  refine mJ_aload_n dX7_shownValue_0 rfl ?_
  refine mJ_get dX7_shownValue_1 f_X7_26 rfl rfl ?_
  refine mJ_get dX7_shownValue_4 f_X7_239 rfl rfl ?_
  refine mJ_iload_n dX7_shownValue_7 rfl ?_
  refine mJ_cV1i dX7_shownValue_8 e_X3_get n_X7_160 ⟨Nat.le_of_ble_eq_true rfl, Nat.le_of_ble_eq_true rfl⟩ rfl rfl (Nat.le_of_ble_eq_true rfl) (C_X3_get rfl rfl (Nat.le_of_ble_eq_true rfl)) ?_
  refine mJ_top ((rg_in SD hh (by decide)).trans hs) ?_
  refine mJ_istore_n dX7_shownValue_11 (Nat.le_of_ble_eq_true rfl) (ls2 := [_, _, _, _]) rfl ?_
  refine mJ_aload_n dX7_shownValue_12 rfl ?_
  refine mJ_get dX7_shownValue_13 f_X7_47 rfl rfl ?_
  refine mJ_aload_n dX7_shownValue_16 rfl ?_
  refine mJ_get dX7_shownValue_17 f_X7_12 rfl rfl ?_
  refine mJ_iload_n dX7_shownValue_20 rfl ?_
  refine mJ_iload_n dX7_shownValue_21 rfl ?_
  refine mJ_aload_n dX7_shownValue_22 rfl ?_
  refine mJ_get dX7_shownValue_23 f_X7_12 rfl rfl ?_
  refine mJ_iconst (v := 2) dX7_shownValue_26 rfl ?_
  refine mJ_cV1i dX7_shownValue_27 e_X5_get n_X7_80 ⟨Nat.le_of_ble_eq_true rfl, Nat.le_of_ble_eq_true rfl⟩ rfl rfl (Nat.le_of_ble_eq_true rfl) (C_X5_get) ?_
  refine mJ_aload_n dX7_shownValue_30 rfl ?_
  refine mJ_get dX7_shownValue_31 f_X7_12 rfl rfl ?_
  refine mJ_iconst (v := 3) dX7_shownValue_34 rfl ?_
  refine mJ_cV1i dX7_shownValue_35 e_X5_get n_X7_80 ⟨Nat.le_of_ble_eq_true rfl, Nat.le_of_ble_eq_true rfl⟩ rfl rfl (Nat.le_of_ble_eq_true rfl) (C_X5_get) ?_
  refine mJ_cV5v dX7_shownValue_38 e_X2_find n_X7_185 ⟨Nat.le_of_ble_eq_true rfl, Nat.le_of_ble_eq_true rfl⟩ rfl rfl (Nat.le_of_ble_eq_true rfl) (C_X2_find_28) ?_
  refine mJ_iload_n dX7_shownValue_41 rfl ?_
  refine mJ_tin 86 dX7_shownValue_42 (by decide) (by decide) rfl rfl ?_
  refine mJ_aload_n dX7_shownValue_86 rfl ?_
  refine mJ_get dX7_shownValue_87 f_X7_47 rfl rfl ?_
  refine mJ_get_28_1 dX7_shownValue_90 f_X7_196 ?_
  exact mJ_iret dX7_shownValue_93 rfl (rfl) (rfl)
set_option maxHeartbeats 4000000 in
set_option maxRecDepth 100000 in
theorem C_X7_shownValue_12 {C : aF} {Hs : tH} {T1 : tT} {P1 : tP} {Od : tO} {T2 : tT} {P2 : tP} {RS SD XS YS OR : aF} {shn : Int32} {h : Nat} {s : Int32} (hh : h < 12) (hs : SD h = s) : mCt k_X7_shownValue [.ref 0, .int (nI h), .int 12] (cH C Hs (RS, SD, XS, YS, OR, shn) T1 P1 Od T2 P2) (some (.int (f_arr C (nI h) s (gG C 2) (gG C 3)))) (cH C Hs (RS, SD, XS, YS, OR, shn) T1 P1 Od T2 (f_P C (nI h) s (gG C 2) (gG C 3))) := by
  refine mCt_intro (plainFor_of_name rfl) (Nat.le_of_ble_eq_true rfl) (m_all rfl) (ls := [_, _, _, _]) rfl ?_
  refine mJ_aload_n dX7_shownValue_0 rfl ?_
  refine mJ_get dX7_shownValue_1 f_X7_26 rfl rfl ?_
  refine mJ_get dX7_shownValue_4 f_X7_239 rfl rfl ?_
  refine mJ_iload_n dX7_shownValue_7 rfl ?_
  refine mJ_cV1i dX7_shownValue_8 e_X3_get n_X7_160 ⟨Nat.le_of_ble_eq_true rfl, Nat.le_of_ble_eq_true rfl⟩ rfl rfl (Nat.le_of_ble_eq_true rfl) (C_X3_get rfl rfl (Nat.le_of_ble_eq_true rfl)) ?_
  refine mJ_top ((rg_in SD hh (by decide)).trans hs) ?_
  refine mJ_istore_n dX7_shownValue_11 (Nat.le_of_ble_eq_true rfl) (ls2 := [_, _, _, _]) rfl ?_
  refine mJ_aload_n dX7_shownValue_12 rfl ?_
  refine mJ_get dX7_shownValue_13 f_X7_47 rfl rfl ?_
  refine mJ_aload_n dX7_shownValue_16 rfl ?_
  refine mJ_get dX7_shownValue_17 f_X7_12 rfl rfl ?_
  refine mJ_iload_n dX7_shownValue_20 rfl ?_
  refine mJ_iload_n dX7_shownValue_21 rfl ?_
  refine mJ_aload_n dX7_shownValue_22 rfl ?_
  refine mJ_get dX7_shownValue_23 f_X7_12 rfl rfl ?_
  refine mJ_iconst (v := 2) dX7_shownValue_26 rfl ?_
  refine mJ_cV1i dX7_shownValue_27 e_X5_get n_X7_80 ⟨Nat.le_of_ble_eq_true rfl, Nat.le_of_ble_eq_true rfl⟩ rfl rfl (Nat.le_of_ble_eq_true rfl) (C_X5_get) ?_
  refine mJ_aload_n dX7_shownValue_30 rfl ?_
  refine mJ_get dX7_shownValue_31 f_X7_12 rfl rfl ?_
  refine mJ_iconst (v := 3) dX7_shownValue_34 rfl ?_
  refine mJ_cV1i dX7_shownValue_35 e_X5_get n_X7_80 ⟨Nat.le_of_ble_eq_true rfl, Nat.le_of_ble_eq_true rfl⟩ rfl rfl (Nat.le_of_ble_eq_true rfl) (C_X5_get) ?_
  refine mJ_cV5v dX7_shownValue_38 e_X2_find n_X7_185 ⟨Nat.le_of_ble_eq_true rfl, Nat.le_of_ble_eq_true rfl⟩ rfl rfl (Nat.le_of_ble_eq_true rfl) (C_X2_find_28) ?_
  refine mJ_iload_n dX7_shownValue_41 rfl ?_
  refine mJ_tin 94 dX7_shownValue_42 (by decide) (by decide) rfl rfl ?_
  refine mJ_aload_n dX7_shownValue_94 rfl ?_
  refine mJ_get dX7_shownValue_95 f_X7_47 rfl rfl ?_
  refine mJ_get_28_3 dX7_shownValue_98 f_X7_202 ?_
  exact mJ_iret dX7_shownValue_101 rfl (rfl) (rfl)
set_option maxHeartbeats 4000000 in
set_option maxRecDepth 100000 in
theorem C_X7_shownValue_13 {C : aF} {Hs : tH} {T1 : tT} {P1 : tP} {Od : tO} {T2 : tT} {P2 : tP} {RS SD XS YS OR : aF} {shn : Int32} {h : Nat} {s : Int32} (hh : h < 12) (hs : SD h = s) : mCt k_X7_shownValue [.ref 0, .int (nI h), .int 13] (cH C Hs (RS, SD, XS, YS, OR, shn) T1 P1 Od T2 P2) (some (.int (b2i (f_gd C (nI h) s (gG C 2) (gG C 3))))) (cH C Hs (RS, SD, XS, YS, OR, shn) T1 P1 Od T2 (f_P C (nI h) s (gG C 2) (gG C 3))) := by
  refine mCt_intro (plainFor_of_name rfl) (Nat.le_of_ble_eq_true rfl) (m_all rfl) (ls := [_, _, _, _]) rfl ?_
  refine mJ_aload_n dX7_shownValue_0 rfl ?_
  refine mJ_get dX7_shownValue_1 f_X7_26 rfl rfl ?_
  refine mJ_get dX7_shownValue_4 f_X7_239 rfl rfl ?_
  refine mJ_iload_n dX7_shownValue_7 rfl ?_
  refine mJ_cV1i dX7_shownValue_8 e_X3_get n_X7_160 ⟨Nat.le_of_ble_eq_true rfl, Nat.le_of_ble_eq_true rfl⟩ rfl rfl (Nat.le_of_ble_eq_true rfl) (C_X3_get rfl rfl (Nat.le_of_ble_eq_true rfl)) ?_
  refine mJ_top ((rg_in SD hh (by decide)).trans hs) ?_
  refine mJ_istore_n dX7_shownValue_11 (Nat.le_of_ble_eq_true rfl) (ls2 := [_, _, _, _]) rfl ?_
  refine mJ_aload_n dX7_shownValue_12 rfl ?_
  refine mJ_get dX7_shownValue_13 f_X7_47 rfl rfl ?_
  refine mJ_aload_n dX7_shownValue_16 rfl ?_
  refine mJ_get dX7_shownValue_17 f_X7_12 rfl rfl ?_
  refine mJ_iload_n dX7_shownValue_20 rfl ?_
  refine mJ_iload_n dX7_shownValue_21 rfl ?_
  refine mJ_aload_n dX7_shownValue_22 rfl ?_
  refine mJ_get dX7_shownValue_23 f_X7_12 rfl rfl ?_
  refine mJ_iconst (v := 2) dX7_shownValue_26 rfl ?_
  refine mJ_cV1i dX7_shownValue_27 e_X5_get n_X7_80 ⟨Nat.le_of_ble_eq_true rfl, Nat.le_of_ble_eq_true rfl⟩ rfl rfl (Nat.le_of_ble_eq_true rfl) (C_X5_get) ?_
  refine mJ_aload_n dX7_shownValue_30 rfl ?_
  refine mJ_get dX7_shownValue_31 f_X7_12 rfl rfl ?_
  refine mJ_iconst (v := 3) dX7_shownValue_34 rfl ?_
  refine mJ_cV1i dX7_shownValue_35 e_X5_get n_X7_80 ⟨Nat.le_of_ble_eq_true rfl, Nat.le_of_ble_eq_true rfl⟩ rfl rfl (Nat.le_of_ble_eq_true rfl) (C_X5_get) ?_
  refine mJ_cV5v dX7_shownValue_38 e_X2_find n_X7_185 ⟨Nat.le_of_ble_eq_true rfl, Nat.le_of_ble_eq_true rfl⟩ rfl rfl (Nat.le_of_ble_eq_true rfl) (C_X2_find_28) ?_
  refine mJ_iload_n dX7_shownValue_41 rfl ?_
  refine mJ_tin 102 dX7_shownValue_42 (by decide) (by decide) rfl rfl ?_
  refine mJ_aload_n dX7_shownValue_102 rfl ?_
  refine mJ_get dX7_shownValue_103 f_X7_47 rfl rfl ?_
  refine mJ_get_28_4 dX7_shownValue_106 f_X7_251 ?_
  refine mJ_b2i (fun b_109 => ?_) (fun b_109 => ?_)
  · refine mJ_if_eq 116 dX7_shownValue_109 rfl (fun c => absurd c (by decide)) (fun _ => ?_)
    refine mJ_iconst (v := 1) dX7_shownValue_112 rfl ?_
    refine mJ_goto 117 dX7_shownValue_113 rfl ?_
    exact mJ_iret dX7_shownValue_117 rfl (z_t b_109) (rfl)
  · refine mJ_if_eq 116 dX7_shownValue_109 rfl (fun _ => ?_) (fun c => absurd c (by decide))
    refine mJ_iconst (v := 0) dX7_shownValue_116 rfl ?_
    exact mJ_iret dX7_shownValue_117 rfl (z_f b_109) (rfl)
set_option maxHeartbeats 4000000 in
set_option maxRecDepth 100000 in
theorem C_X7_shownValue_14 {C : aF} {Hs : tH} {T1 : tT} {P1 : tP} {Od : tO} {T2 : tT} {P2 : tP} {RS SD XS YS OR : aF} {shn : Int32} {h : Nat} {s : Int32} (hh : h < 12) (hs : SD h = s) : mCt k_X7_shownValue [.ref 0, .int (nI h), .int 14] (cH C Hs (RS, SD, XS, YS, OR, shn) T1 P1 Od T2 P2) (some (.int (f_shf C (nI h) s (gG C 2) (gG C 3)))) (cH C Hs (RS, SD, XS, YS, OR, shn) T1 P1 Od T2 (f_P C (nI h) s (gG C 2) (gG C 3))) := by
  refine mCt_intro (plainFor_of_name rfl) (Nat.le_of_ble_eq_true rfl) (m_all rfl) (ls := [_, _, _, _]) rfl ?_
  refine mJ_aload_n dX7_shownValue_0 rfl ?_
  refine mJ_get dX7_shownValue_1 f_X7_26 rfl rfl ?_
  refine mJ_get dX7_shownValue_4 f_X7_239 rfl rfl ?_
  refine mJ_iload_n dX7_shownValue_7 rfl ?_
  refine mJ_cV1i dX7_shownValue_8 e_X3_get n_X7_160 ⟨Nat.le_of_ble_eq_true rfl, Nat.le_of_ble_eq_true rfl⟩ rfl rfl (Nat.le_of_ble_eq_true rfl) (C_X3_get rfl rfl (Nat.le_of_ble_eq_true rfl)) ?_
  refine mJ_top ((rg_in SD hh (by decide)).trans hs) ?_
  refine mJ_istore_n dX7_shownValue_11 (Nat.le_of_ble_eq_true rfl) (ls2 := [_, _, _, _]) rfl ?_
  refine mJ_aload_n dX7_shownValue_12 rfl ?_
  refine mJ_get dX7_shownValue_13 f_X7_47 rfl rfl ?_
  refine mJ_aload_n dX7_shownValue_16 rfl ?_
  refine mJ_get dX7_shownValue_17 f_X7_12 rfl rfl ?_
  refine mJ_iload_n dX7_shownValue_20 rfl ?_
  refine mJ_iload_n dX7_shownValue_21 rfl ?_
  refine mJ_aload_n dX7_shownValue_22 rfl ?_
  refine mJ_get dX7_shownValue_23 f_X7_12 rfl rfl ?_
  refine mJ_iconst (v := 2) dX7_shownValue_26 rfl ?_
  refine mJ_cV1i dX7_shownValue_27 e_X5_get n_X7_80 ⟨Nat.le_of_ble_eq_true rfl, Nat.le_of_ble_eq_true rfl⟩ rfl rfl (Nat.le_of_ble_eq_true rfl) (C_X5_get) ?_
  refine mJ_aload_n dX7_shownValue_30 rfl ?_
  refine mJ_get dX7_shownValue_31 f_X7_12 rfl rfl ?_
  refine mJ_iconst (v := 3) dX7_shownValue_34 rfl ?_
  refine mJ_cV1i dX7_shownValue_35 e_X5_get n_X7_80 ⟨Nat.le_of_ble_eq_true rfl, Nat.le_of_ble_eq_true rfl⟩ rfl rfl (Nat.le_of_ble_eq_true rfl) (C_X5_get) ?_
  refine mJ_cV5v dX7_shownValue_38 e_X2_find n_X7_185 ⟨Nat.le_of_ble_eq_true rfl, Nat.le_of_ble_eq_true rfl⟩ rfl rfl (Nat.le_of_ble_eq_true rfl) (C_X2_find_28) ?_
  refine mJ_iload_n dX7_shownValue_41 rfl ?_
  refine mJ_tout 118 dX7_shownValue_42 (by decide) rfl ?_
  refine mJ_aload_n dX7_shownValue_118 rfl ?_
  refine mJ_get dX7_shownValue_119 f_X7_47 rfl rfl ?_
  refine mJ_get_28_2 dX7_shownValue_122 f_X7_199 ?_
  exact mJ_iret dX7_shownValue_125 rfl (rfl) (rfl)
