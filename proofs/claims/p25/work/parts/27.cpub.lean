/-! THE CLASS: changes -/
set_option maxHeartbeats 4000000 in
set_option maxRecDepth 100000 in
theorem C_X7_view_bad {C W : aF} {o n : Nat} {RS SD XS YS OR : aF} {shn : Int32} {T1 : tT} {P1 : tP} {Od : tO} {T2 : tT} {P2 : tP} {w h : Int32} (hb : ¬ (q_view w ∧ q_view h)) : mCt k_X7_view [.ref 0, .int w, .int h] (cH C (W, nI o, nI n) (RS, SD, XS, YS, OR, shn) T1 P1 Od T2 P2) (some (.int (-10001))) (cH C (W, nI o, nI n) (RS, SD, XS, YS, OR, shn) T1 P1 Od T2 P2) := by
  refine mCt_intro (plainFor_of_name rfl) (Nat.le_of_ble_eq_true rfl) (m_all rfl) (ls := [_, _, _]) rfl ?_
  refine mJ_iload_n dX7_view_0 rfl ?_
  refine mJ_cS1i dX7_view_1 e_X7_isViewSize n_X7_51 ⟨Nat.le_of_ble_eq_true rfl, Nat.le_of_ble_eq_true rfl⟩ (Nat.le_of_ble_eq_true rfl) (C_X7_isViewSize) ?_
  refine mJ_b2i (fun b_1 => ?_) (fun b_1 => ?_)
  · refine mJ_if_eq 14 dX7_view_4 rfl (fun c => absurd c (by decide)) (fun _ => ?_)
    refine mJ_iload_n dX7_view_7 rfl ?_
    refine mJ_cS1i dX7_view_8 e_X7_isViewSize n_X7_51 ⟨Nat.le_of_ble_eq_true rfl, Nat.le_of_ble_eq_true rfl⟩ (Nat.le_of_ble_eq_true rfl) (C_X7_isViewSize) ?_
    refine mJ_b2i (fun b_8 => ?_) (fun b_8 => ?_)
    · exact False.elim (by exact hb ⟨b_1, b_8⟩)
    · refine mJ_if_ne 18 dX7_view_11 rfl (fun c => absurd c (by decide)) (fun _ => ?_)
      refine mJ_sipush (v := (-10001)) dX7_view_14 rfl ?_
      exact mJ_iret dX7_view_17 rfl (rfl) (rfl)
  · refine mJ_if_eq 14 dX7_view_4 rfl (fun _ => ?_) (fun c => absurd c (by decide))
    refine mJ_sipush (v := (-10001)) dX7_view_14 rfl ?_
    exact mJ_iret dX7_view_17 rfl (rfl) (rfl)
set_option maxHeartbeats 4000000 in
set_option maxRecDepth 100000 in
theorem C_X7_view {C W : aF} {o n : Nat} {RS SD XS YS OR : aF} {shn : Int32} {T1 : tT} {P1 : tP} {Od : tO} {T2 : tT} {P2 : tP} {w h : Int32} {d : aF} {nA nH nO : Nat} (ho : o < 5) (hn : n ≤ 5) (h1 : q_view w) (h2 : q_view h) (B : bC (sP (sP C 2 w) 3 h) d nA nH nO) : ∃ (RS' SD' XS' YS' OR' : aF) (T1' : tT) (P1' : tP), sR d nH RS' SD' XS' YS' (p_all d nA nH nO).1 (p_all d nA nH nO).2.1 ∧ mCt k_X7_view [.ref 0, .int w, .int h] (cH C (W, nI o, nI n) (RS, SD, XS, YS, OR, shn) T1 P1 Od T2 P2) (some (.int (p_all d nA nH nO).2.2)) (cH (sP (sP C 2 w) 3 h) (kH W C o n) (RS', SD', XS', YS', OR', (p_all d nA nH nO).2.2) (T1') (P1') Od T2 P2) := by
  obtain ⟨R1, R2, R3, R4, R5, R6, R7, hz, hj⟩ := C_X4_arrange (Hs := kH W C o n) (Od := Od) (T2 := T2) (P2 := P2) (RS := RS) (SD := SD) (XS := XS) (YS := YS) (OR := OR) (shn := shn) (T1 := T1) (P1 := P1) B
  refine ⟨R1, R2, R3, R4, R5, R6, R7, hz, ?_⟩
  refine mCt_intro (plainFor_of_name rfl) (Nat.le_of_ble_eq_true rfl) (m_all rfl) (ls := [_, _, _]) rfl ?_
  refine mJ_iload_n dX7_view_0 rfl ?_
  refine mJ_cS1i dX7_view_1 e_X7_isViewSize n_X7_51 ⟨Nat.le_of_ble_eq_true rfl, Nat.le_of_ble_eq_true rfl⟩ (Nat.le_of_ble_eq_true rfl) (C_X7_isViewSize) ?_
  refine mJ_top (b2i_t h1) ?_
  refine mJ_if_eq 14 dX7_view_4 rfl (fun c => absurd c (by decide)) (fun _ => ?_)
  refine mJ_iload_n dX7_view_7 rfl ?_
  refine mJ_cS1i dX7_view_8 e_X7_isViewSize n_X7_51 ⟨Nat.le_of_ble_eq_true rfl, Nat.le_of_ble_eq_true rfl⟩ (Nat.le_of_ble_eq_true rfl) (C_X7_isViewSize) ?_
  refine mJ_top (b2i_t h2) ?_
  refine mJ_if_ne 18 dX7_view_11 rfl (fun _ => ?_) (fun c => absurd c (by decide))
  refine mJ_aload_n dX7_view_18 rfl ?_
  refine mJ_get dX7_view_19 f_X7_19 rfl rfl ?_
  refine mJ_aload_n dX7_view_22 rfl ?_
  refine mJ_get dX7_view_23 f_X7_12 rfl rfl ?_
  refine mJ_cV1v dX7_view_26 e_X0_keep n_X7_55 ⟨Nat.le_of_ble_eq_true rfl, Nat.le_of_ble_eq_true rfl⟩ rfl rfl (Nat.le_of_ble_eq_true rfl) (C_X0_keep ho hn) ?_
  refine mJ_aload_n dX7_view_29 rfl ?_
  refine mJ_get dX7_view_30 f_X7_12 rfl rfl ?_
  refine mJ_iconst (v := 2) dX7_view_33 rfl ?_
  refine mJ_iload_n dX7_view_34 rfl ?_
  refine mJ_cV2v dX7_view_35 e_X5_put n_X7_59 ⟨Nat.le_of_ble_eq_true rfl, Nat.le_of_ble_eq_true rfl⟩ rfl rfl (Nat.le_of_ble_eq_true rfl) (C_X5_put) ?_
  refine mJ_aload_n dX7_view_38 rfl ?_
  refine mJ_get dX7_view_39 f_X7_12 rfl rfl ?_
  refine mJ_iconst (v := 3) dX7_view_42 rfl ?_
  refine mJ_iload_n dX7_view_43 rfl ?_
  refine mJ_cV2v dX7_view_44 e_X5_put n_X7_59 ⟨Nat.le_of_ble_eq_true rfl, Nat.le_of_ble_eq_true rfl⟩ rfl rfl (Nat.le_of_ble_eq_true rfl) (C_X5_put) ?_
  refine mJ_aload_n dX7_view_47 rfl ?_
  refine mJ_get dX7_view_48 f_X7_26 rfl rfl ?_
  refine mJ_aload_n dX7_view_51 rfl ?_
  refine mJ_get dX7_view_52 f_X7_12 rfl rfl ?_
  refine mJ_cV1i dX7_view_55 e_X4_arrange n_X7_63 ⟨Nat.le_of_ble_eq_true rfl, Nat.le_of_ble_eq_true rfl⟩ rfl rfl (Nat.le_of_ble_eq_true rfl) (hj) ?_
  exact mJ_iret dX7_view_58 rfl (rfl) (rfl)
set_option maxHeartbeats 4000000 in
set_option maxRecDepth 100000 in
theorem C_X7_scroll_bad {C W : aF} {o n : Nat} {RS SD XS YS OR : aF} {shn : Int32} {T1 : tT} {P1 : tP} {Od : tO} {T2 : tT} {P2 : tP} {x y : Int32} (hb : ¬ (q_in x 1000 ∧ q_in y 1000)) : mCt k_X7_scroll [.ref 0, .int x, .int y] (cH C (W, nI o, nI n) (RS, SD, XS, YS, OR, shn) T1 P1 Od T2 P2) (some (.int (-10001))) (cH C (W, nI o, nI n) (RS, SD, XS, YS, OR, shn) T1 P1 Od T2 P2) := by
  refine mCt_intro (plainFor_of_name rfl) (Nat.le_of_ble_eq_true rfl) (m_all rfl) (ls := [_, _, _]) rfl ?_
  refine mJ_iload_n dX7_scroll_0 rfl ?_
  refine mJ_sipush (v := 1000) dX7_scroll_1 rfl ?_
  refine mJ_cS2i dX7_scroll_4 e_X7_isWithin n_X7_67 ⟨Nat.le_of_ble_eq_true rfl, Nat.le_of_ble_eq_true rfl⟩ (Nat.le_of_ble_eq_true rfl) (C_X7_isWithin) ?_
  refine mJ_b2i (fun b_4 => ?_) (fun b_4 => ?_)
  · refine mJ_if_eq 20 dX7_scroll_7 rfl (fun c => absurd c (by decide)) (fun _ => ?_)
    refine mJ_iload_n dX7_scroll_10 rfl ?_
    refine mJ_sipush (v := 1000) dX7_scroll_11 rfl ?_
    refine mJ_cS2i dX7_scroll_14 e_X7_isWithin n_X7_67 ⟨Nat.le_of_ble_eq_true rfl, Nat.le_of_ble_eq_true rfl⟩ (Nat.le_of_ble_eq_true rfl) (C_X7_isWithin) ?_
    refine mJ_b2i (fun b_14 => ?_) (fun b_14 => ?_)
    · exact False.elim (by exact hb ⟨b_4, b_14⟩)
    · refine mJ_if_ne 24 dX7_scroll_17 rfl (fun c => absurd c (by decide)) (fun _ => ?_)
      refine mJ_sipush (v := (-10001)) dX7_scroll_20 rfl ?_
      exact mJ_iret dX7_scroll_23 rfl (rfl) (rfl)
  · refine mJ_if_eq 20 dX7_scroll_7 rfl (fun _ => ?_) (fun c => absurd c (by decide))
    refine mJ_sipush (v := (-10001)) dX7_scroll_20 rfl ?_
    exact mJ_iret dX7_scroll_23 rfl (rfl) (rfl)
set_option maxHeartbeats 4000000 in
set_option maxRecDepth 100000 in
theorem C_X7_scroll_np {C W : aF} {o n : Nat} {RS SD XS YS OR : aF} {shn : Int32} {T1 : tT} {P1 : tP} {Od : tO} {T2 : tT} {P2 : tP} {x y : Int32} (h1 : q_in x 1000) (h2 : q_in y 1000) (h3 : ¬ q_cm C x y) : mCt k_X7_scroll [.ref 0, .int x, .int y] (cH C (W, nI o, nI n) (RS, SD, XS, YS, OR, shn) T1 P1 Od T2 P2) (some (.int (-10002))) (cH C (W, nI o, nI n) (RS, SD, XS, YS, OR, shn) T1 P1 Od T2 P2) := by
  refine mCt_intro (plainFor_of_name rfl) (Nat.le_of_ble_eq_true rfl) (m_all rfl) (ls := [_, _, _]) rfl ?_
  refine mJ_iload_n dX7_scroll_0 rfl ?_
  refine mJ_sipush (v := 1000) dX7_scroll_1 rfl ?_
  refine mJ_cS2i dX7_scroll_4 e_X7_isWithin n_X7_67 ⟨Nat.le_of_ble_eq_true rfl, Nat.le_of_ble_eq_true rfl⟩ (Nat.le_of_ble_eq_true rfl) (C_X7_isWithin) ?_
  refine mJ_top (b2i_t h1) ?_
  refine mJ_if_eq 20 dX7_scroll_7 rfl (fun c => absurd c (by decide)) (fun _ => ?_)
  refine mJ_iload_n dX7_scroll_10 rfl ?_
  refine mJ_sipush (v := 1000) dX7_scroll_11 rfl ?_
  refine mJ_cS2i dX7_scroll_14 e_X7_isWithin n_X7_67 ⟨Nat.le_of_ble_eq_true rfl, Nat.le_of_ble_eq_true rfl⟩ (Nat.le_of_ble_eq_true rfl) (C_X7_isWithin) ?_
  refine mJ_top (b2i_t h2) ?_
  refine mJ_if_ne 24 dX7_scroll_17 rfl (fun _ => ?_) (fun c => absurd c (by decide))
  refine mJ_aload_n dX7_scroll_24 rfl ?_
  refine mJ_iload_n dX7_scroll_25 rfl ?_
  refine mJ_iload_n dX7_scroll_26 rfl ?_
  refine mJ_cV2i dX7_scroll_27 e_X7_canMoveView n_X7_71 ⟨Nat.le_of_ble_eq_true rfl, Nat.le_of_ble_eq_true rfl⟩ rfl rfl (Nat.le_of_ble_eq_true rfl) (C_X7_canMoveView) ?_
  refine mJ_top (b2i_f h3) ?_
  refine mJ_if_ne 37 dX7_scroll_30 rfl (fun c => absurd c (by decide)) (fun _ => ?_)
  refine mJ_sipush (v := (-10002)) dX7_scroll_33 rfl ?_
  exact mJ_iret dX7_scroll_36 rfl (rfl) (rfl)
set_option maxHeartbeats 4000000 in
set_option maxRecDepth 100000 in
theorem C_X7_scroll {C W : aF} {o n : Nat} {RS SD XS YS OR : aF} {shn : Int32} {T1 : tT} {P1 : tP} {Od : tO} {T2 : tT} {P2 : tP} {x y : Int32} {d : aF} {nA nH nO : Nat} (ho : o < 5) (hn : n ≤ 5) (h1 : q_in x 1000) (h2 : q_in y 1000) (h3 : q_cm C x y) (B : bC (sP (sP C 0 (gG C 0 + x)) 1 (gG (sP C 0 (gG C 0 + x)) 1 + y)) d nA nH nO) : ∃ (RS' SD' XS' YS' OR' : aF) (T1' : tT) (P1' : tP), sR d nH RS' SD' XS' YS' (p_all d nA nH nO).1 (p_all d nA nH nO).2.1 ∧ mCt k_X7_scroll [.ref 0, .int x, .int y] (cH C (W, nI o, nI n) (RS, SD, XS, YS, OR, shn) T1 P1 Od T2 P2) (some (.int (p_all d nA nH nO).2.2)) (cH (sP (sP C 0 (gG C 0 + x)) 1 (gG (sP C 0 (gG C 0 + x)) 1 + y)) (kH W C o n) (RS', SD', XS', YS', OR', (p_all d nA nH nO).2.2) (T1') (P1') Od T2 P2) := by
  obtain ⟨R1, R2, R3, R4, R5, R6, R7, hz, hj⟩ := C_X4_arrange (Hs := kH W C o n) (Od := Od) (T2 := T2) (P2 := P2) (RS := RS) (SD := SD) (XS := XS) (YS := YS) (OR := OR) (shn := shn) (T1 := T1) (P1 := P1) B
  refine ⟨R1, R2, R3, R4, R5, R6, R7, hz, ?_⟩
  refine mCt_intro (plainFor_of_name rfl) (Nat.le_of_ble_eq_true rfl) (m_all rfl) (ls := [_, _, _]) rfl ?_
  refine mJ_iload_n dX7_scroll_0 rfl ?_
  refine mJ_sipush (v := 1000) dX7_scroll_1 rfl ?_
  refine mJ_cS2i dX7_scroll_4 e_X7_isWithin n_X7_67 ⟨Nat.le_of_ble_eq_true rfl, Nat.le_of_ble_eq_true rfl⟩ (Nat.le_of_ble_eq_true rfl) (C_X7_isWithin) ?_
  refine mJ_top (b2i_t h1) ?_
  refine mJ_if_eq 20 dX7_scroll_7 rfl (fun c => absurd c (by decide)) (fun _ => ?_)
  refine mJ_iload_n dX7_scroll_10 rfl ?_
  refine mJ_sipush (v := 1000) dX7_scroll_11 rfl ?_
  refine mJ_cS2i dX7_scroll_14 e_X7_isWithin n_X7_67 ⟨Nat.le_of_ble_eq_true rfl, Nat.le_of_ble_eq_true rfl⟩ (Nat.le_of_ble_eq_true rfl) (C_X7_isWithin) ?_
  refine mJ_top (b2i_t h2) ?_
  refine mJ_if_ne 24 dX7_scroll_17 rfl (fun _ => ?_) (fun c => absurd c (by decide))
  refine mJ_aload_n dX7_scroll_24 rfl ?_
  refine mJ_iload_n dX7_scroll_25 rfl ?_
  refine mJ_iload_n dX7_scroll_26 rfl ?_
  refine mJ_cV2i dX7_scroll_27 e_X7_canMoveView n_X7_71 ⟨Nat.le_of_ble_eq_true rfl, Nat.le_of_ble_eq_true rfl⟩ rfl rfl (Nat.le_of_ble_eq_true rfl) (C_X7_canMoveView) ?_
  refine mJ_top (b2i_t h3) ?_
  refine mJ_if_ne 37 dX7_scroll_30 rfl (fun _ => ?_) (fun c => absurd c (by decide))
  refine mJ_aload_n dX7_scroll_37 rfl ?_
  refine mJ_get dX7_scroll_38 f_X7_19 rfl rfl ?_
  refine mJ_aload_n dX7_scroll_41 rfl ?_
  refine mJ_get dX7_scroll_42 f_X7_12 rfl rfl ?_
  refine mJ_cV1v dX7_scroll_45 e_X0_keep n_X7_55 ⟨Nat.le_of_ble_eq_true rfl, Nat.le_of_ble_eq_true rfl⟩ rfl rfl (Nat.le_of_ble_eq_true rfl) (C_X0_keep ho hn) ?_
  refine mJ_aload_n dX7_scroll_48 rfl ?_
  refine mJ_iload_n dX7_scroll_49 rfl ?_
  refine mJ_iload_n dX7_scroll_50 rfl ?_
  refine mJ_cV2v dX7_scroll_51 e_X7_moveView n_X7_74 ⟨Nat.le_of_ble_eq_true rfl, Nat.le_of_ble_eq_true rfl⟩ rfl rfl (Nat.le_of_ble_eq_true rfl) (C_X7_moveView) ?_
  refine mJ_aload_n dX7_scroll_54 rfl ?_
  refine mJ_get dX7_scroll_55 f_X7_26 rfl rfl ?_
  refine mJ_aload_n dX7_scroll_58 rfl ?_
  refine mJ_get dX7_scroll_59 f_X7_12 rfl rfl ?_
  refine mJ_cV1i dX7_scroll_62 e_X4_arrange n_X7_63 ⟨Nat.le_of_ble_eq_true rfl, Nat.le_of_ble_eq_true rfl⟩ rfl rfl (Nat.le_of_ble_eq_true rfl) (hj) ?_
  exact mJ_iret dX7_scroll_65 rfl (rfl) (rfl)
set_option maxHeartbeats 4000000 in
set_option maxRecDepth 100000 in
theorem C_X7_anchor_bad {C W : aF} {o n : Nat} {RS SD XS YS OR : aF} {shn : Int32} {T1 : tT} {P1 : tP} {Od : tO} {T2 : tT} {P2 : tP} {x y w h : Int32} (hb : ¬ (q_in x 1000 ∧ q_in y 1000 ∧ q_size w ∧ q_size h)) : mCt k_X7_anchor [.ref 0, .int x, .int y, .int w, .int h] (cH C (W, nI o, nI n) (RS, SD, XS, YS, OR, shn) T1 P1 Od T2 P2) (some (.int (-10001))) (cH C (W, nI o, nI n) (RS, SD, XS, YS, OR, shn) T1 P1 Od T2 P2) := by
  refine mCt_intro (plainFor_of_name rfl) (Nat.le_of_ble_eq_true rfl) (m_all rfl) (ls := [_, _, _, _, _, _]) rfl ?_
  refine mJ_iload_n dX7_anchor_0 rfl ?_
  refine mJ_sipush (v := 1000) dX7_anchor_1 rfl ?_
  refine mJ_cS2i dX7_anchor_4 e_X7_isWithin n_X7_67 ⟨Nat.le_of_ble_eq_true rfl, Nat.le_of_ble_eq_true rfl⟩ (Nat.le_of_ble_eq_true rfl) (C_X7_isWithin) ?_
  refine mJ_b2i (fun b_4 => ?_) (fun b_4 => ?_)
  · refine mJ_if_eq 20 dX7_anchor_7 rfl (fun c => absurd c (by decide)) (fun _ => ?_)
    refine mJ_iload_n dX7_anchor_10 rfl ?_
    refine mJ_sipush (v := 1000) dX7_anchor_11 rfl ?_
    refine mJ_cS2i dX7_anchor_14 e_X7_isWithin n_X7_67 ⟨Nat.le_of_ble_eq_true rfl, Nat.le_of_ble_eq_true rfl⟩ (Nat.le_of_ble_eq_true rfl) (C_X7_isWithin) ?_
    refine mJ_b2i (fun b_14 => ?_) (fun b_14 => ?_)
    · refine mJ_if_ne 24 dX7_anchor_17 rfl (fun _ => ?_) (fun c => absurd c (by decide))
      refine mJ_iload_n dX7_anchor_24 rfl ?_
      refine mJ_cS1i dX7_anchor_25 e_X7_isSize n_X7_77 ⟨Nat.le_of_ble_eq_true rfl, Nat.le_of_ble_eq_true rfl⟩ (Nat.le_of_ble_eq_true rfl) (C_X7_isSize) ?_
      refine mJ_b2i (fun b_25 => ?_) (fun b_25 => ?_)
      · refine mJ_if_eq 39 dX7_anchor_28 rfl (fun c => absurd c (by decide)) (fun _ => ?_)
        refine mJ_iload dX7_anchor_31 rfl ?_
        refine mJ_cS1i dX7_anchor_33 e_X7_isSize n_X7_77 ⟨Nat.le_of_ble_eq_true rfl, Nat.le_of_ble_eq_true rfl⟩ (Nat.le_of_ble_eq_true rfl) (C_X7_isSize) ?_
        refine mJ_b2i (fun b_33 => ?_) (fun b_33 => ?_)
        · exact False.elim (by exact hb ⟨b_4, b_14, b_25, b_33⟩)
        · refine mJ_if_ne 43 dX7_anchor_36 rfl (fun c => absurd c (by decide)) (fun _ => ?_)
          refine mJ_sipush (v := (-10001)) dX7_anchor_39 rfl ?_
          exact mJ_iret dX7_anchor_42 rfl (rfl) (rfl)
      · refine mJ_if_eq 39 dX7_anchor_28 rfl (fun _ => ?_) (fun c => absurd c (by decide))
        refine mJ_sipush (v := (-10001)) dX7_anchor_39 rfl ?_
        exact mJ_iret dX7_anchor_42 rfl (rfl) (rfl)
    · refine mJ_if_ne 24 dX7_anchor_17 rfl (fun c => absurd c (by decide)) (fun _ => ?_)
      refine mJ_sipush (v := (-10001)) dX7_anchor_20 rfl ?_
      exact mJ_iret dX7_anchor_23 rfl (rfl) (rfl)
  · refine mJ_if_eq 20 dX7_anchor_7 rfl (fun _ => ?_) (fun c => absurd c (by decide))
    refine mJ_sipush (v := (-10001)) dX7_anchor_20 rfl ?_
    exact mJ_iret dX7_anchor_23 rfl (rfl) (rfl)
set_option maxHeartbeats 4000000 in
set_option maxRecDepth 100000 in
theorem C_X7_anchor_lim {C W : aF} {o n : Nat} {RS SD XS YS OR : aF} {shn : Int32} {T1 : tT} {P1 : tP} {Od : tO} {T2 : tT} {P2 : tP} {x y w h : Int32} (h1 : q_in x 1000) (h2 : q_in y 1000) (h3 : q_size w) (h4 : q_size h) (hA : gG C 4 = 10) : mCt k_X7_anchor [.ref 0, .int x, .int y, .int w, .int h] (cH C (W, nI o, nI n) (RS, SD, XS, YS, OR, shn) T1 P1 Od T2 P2) (some (.int (-10003))) (cH C (W, nI o, nI n) (RS, SD, XS, YS, OR, shn) T1 P1 Od T2 P2) := by
  refine mCt_intro (plainFor_of_name rfl) (Nat.le_of_ble_eq_true rfl) (m_all rfl) (ls := [_, _, _, _, _, _]) rfl ?_
  refine mJ_iload_n dX7_anchor_0 rfl ?_
  refine mJ_sipush (v := 1000) dX7_anchor_1 rfl ?_
  refine mJ_cS2i dX7_anchor_4 e_X7_isWithin n_X7_67 ⟨Nat.le_of_ble_eq_true rfl, Nat.le_of_ble_eq_true rfl⟩ (Nat.le_of_ble_eq_true rfl) (C_X7_isWithin) ?_
  refine mJ_top (b2i_t h1) ?_
  refine mJ_if_eq 20 dX7_anchor_7 rfl (fun c => absurd c (by decide)) (fun _ => ?_)
  refine mJ_iload_n dX7_anchor_10 rfl ?_
  refine mJ_sipush (v := 1000) dX7_anchor_11 rfl ?_
  refine mJ_cS2i dX7_anchor_14 e_X7_isWithin n_X7_67 ⟨Nat.le_of_ble_eq_true rfl, Nat.le_of_ble_eq_true rfl⟩ (Nat.le_of_ble_eq_true rfl) (C_X7_isWithin) ?_
  refine mJ_top (b2i_t h2) ?_
  refine mJ_if_ne 24 dX7_anchor_17 rfl (fun _ => ?_) (fun c => absurd c (by decide))
  refine mJ_iload_n dX7_anchor_24 rfl ?_
  refine mJ_cS1i dX7_anchor_25 e_X7_isSize n_X7_77 ⟨Nat.le_of_ble_eq_true rfl, Nat.le_of_ble_eq_true rfl⟩ (Nat.le_of_ble_eq_true rfl) (C_X7_isSize) ?_
  refine mJ_top (b2i_t h3) ?_
  refine mJ_if_eq 39 dX7_anchor_28 rfl (fun c => absurd c (by decide)) (fun _ => ?_)
  refine mJ_iload dX7_anchor_31 rfl ?_
  refine mJ_cS1i dX7_anchor_33 e_X7_isSize n_X7_77 ⟨Nat.le_of_ble_eq_true rfl, Nat.le_of_ble_eq_true rfl⟩ (Nat.le_of_ble_eq_true rfl) (C_X7_isSize) ?_
  refine mJ_top (b2i_t h4) ?_
  refine mJ_if_ne 43 dX7_anchor_36 rfl (fun _ => ?_) (fun c => absurd c (by decide))
  refine mJ_aload_n dX7_anchor_43 rfl ?_
  refine mJ_get dX7_anchor_44 f_X7_12 rfl rfl ?_
  refine mJ_iconst (v := 4) dX7_anchor_47 rfl ?_
  refine mJ_cV1i dX7_anchor_48 e_X5_get n_X7_80 ⟨Nat.le_of_ble_eq_true rfl, Nat.le_of_ble_eq_true rfl⟩ rfl rfl (Nat.le_of_ble_eq_true rfl) (C_X5_get) ?_
  refine mJ_istore dX7_anchor_51 (Nat.le_of_ble_eq_true rfl) (ls2 := [_, _, _, _, _, _]) rfl ?_
  refine mJ_iload dX7_anchor_53 rfl ?_
  refine mJ_bipush (v := 10) dX7_anchor_55 rfl ?_
  refine mJ_icmp_lt 64 dX7_anchor_57 rfl (fun c_57 => False.elim (by rw [hA] at c_57; exact absurd c_57 (by decide))) (fun c_57 => ?_)
  refine mJ_sipush (v := (-10003)) dX7_anchor_60 rfl ?_
  exact mJ_iret dX7_anchor_63 rfl (rfl) (rfl)
set_option maxHeartbeats 4000000 in
set_option maxRecDepth 100000 in
theorem C_X7_anchor {C W : aF} {o n : Nat} {RS SD XS YS OR : aF} {shn : Int32} {T1 : tT} {P1 : tP} {Od : tO} {T2 : tT} {P2 : tP} {x y w h : Int32} {k : Nat} {d : aF} {nA nH nO : Nat} (ho : o < 5) (hn : n ≤ 5) (h1 : q_in x 1000) (h2 : q_in y 1000) (h3 : q_size w) (h4 : q_size h) (hA : gG C 4 = nI k) (hk : k < 10) (B : bC (sA (sA (sA (sA (sP C 4 (nI k + 1)) (nI k) 0 x) (nI k) 1 y) (nI k) 2 w) (nI k) 3 h) d nA nH nO) : ∃ (RS' SD' XS' YS' OR' : aF) (T1' : tT) (P1' : tP), sR d nH RS' SD' XS' YS' (p_all d nA nH nO).1 (p_all d nA nH nO).2.1 ∧ mCt k_X7_anchor [.ref 0, .int x, .int y, .int w, .int h] (cH C (W, nI o, nI n) (RS, SD, XS, YS, OR, shn) T1 P1 Od T2 P2) (some (.int (nI k))) (cH (sA (sA (sA (sA (sP C 4 (nI k + 1)) (nI k) 0 x) (nI k) 1 y) (nI k) 2 w) (nI k) 3 h) (kH W C o n) (RS', SD', XS', YS', OR', (p_all d nA nH nO).2.2) (T1') (P1') Od T2 P2) := by
  obtain ⟨R1, R2, R3, R4, R5, R6, R7, hz, hj⟩ := C_X4_arrange (Hs := kH W C o n) (Od := Od) (T2 := T2) (P2 := P2) (RS := RS) (SD := SD) (XS := XS) (YS := YS) (OR := OR) (shn := shn) (T1 := T1) (P1 := P1) B
  refine ⟨R1, R2, R3, R4, R5, R6, R7, hz, ?_⟩
  refine mCt_intro (plainFor_of_name rfl) (Nat.le_of_ble_eq_true rfl) (m_all rfl) (ls := [_, _, _, _, _, _]) rfl ?_
  refine mJ_iload_n dX7_anchor_0 rfl ?_
  refine mJ_sipush (v := 1000) dX7_anchor_1 rfl ?_
  refine mJ_cS2i dX7_anchor_4 e_X7_isWithin n_X7_67 ⟨Nat.le_of_ble_eq_true rfl, Nat.le_of_ble_eq_true rfl⟩ (Nat.le_of_ble_eq_true rfl) (C_X7_isWithin) ?_
  refine mJ_top (b2i_t h1) ?_
  refine mJ_if_eq 20 dX7_anchor_7 rfl (fun c => absurd c (by decide)) (fun _ => ?_)
  refine mJ_iload_n dX7_anchor_10 rfl ?_
  refine mJ_sipush (v := 1000) dX7_anchor_11 rfl ?_
  refine mJ_cS2i dX7_anchor_14 e_X7_isWithin n_X7_67 ⟨Nat.le_of_ble_eq_true rfl, Nat.le_of_ble_eq_true rfl⟩ (Nat.le_of_ble_eq_true rfl) (C_X7_isWithin) ?_
  refine mJ_top (b2i_t h2) ?_
  refine mJ_if_ne 24 dX7_anchor_17 rfl (fun _ => ?_) (fun c => absurd c (by decide))
  refine mJ_iload_n dX7_anchor_24 rfl ?_
  refine mJ_cS1i dX7_anchor_25 e_X7_isSize n_X7_77 ⟨Nat.le_of_ble_eq_true rfl, Nat.le_of_ble_eq_true rfl⟩ (Nat.le_of_ble_eq_true rfl) (C_X7_isSize) ?_
  refine mJ_top (b2i_t h3) ?_
  refine mJ_if_eq 39 dX7_anchor_28 rfl (fun c => absurd c (by decide)) (fun _ => ?_)
  refine mJ_iload dX7_anchor_31 rfl ?_
  refine mJ_cS1i dX7_anchor_33 e_X7_isSize n_X7_77 ⟨Nat.le_of_ble_eq_true rfl, Nat.le_of_ble_eq_true rfl⟩ (Nat.le_of_ble_eq_true rfl) (C_X7_isSize) ?_
  refine mJ_top (b2i_t h4) ?_
  refine mJ_if_ne 43 dX7_anchor_36 rfl (fun _ => ?_) (fun c => absurd c (by decide))
  refine mJ_aload_n dX7_anchor_43 rfl ?_
  refine mJ_get dX7_anchor_44 f_X7_12 rfl rfl ?_
  refine mJ_iconst (v := 4) dX7_anchor_47 rfl ?_
  refine mJ_cV1i dX7_anchor_48 e_X5_get n_X7_80 ⟨Nat.le_of_ble_eq_true rfl, Nat.le_of_ble_eq_true rfl⟩ rfl rfl (Nat.le_of_ble_eq_true rfl) (C_X5_get) ?_
  refine mJ_top hA ?_
  refine mJ_istore dX7_anchor_51 (Nat.le_of_ble_eq_true rfl) (ls2 := [_, _, _, _, _, _]) rfl ?_
  refine mJ_iload dX7_anchor_53 rfl ?_
  refine mJ_bipush (v := 10) dX7_anchor_55 rfl ?_
  refine mJ_icmp_lt 64 dX7_anchor_57 rfl (fun c_57 => ?_) (fun c_57 => False.elim (by exact nI_ge hk (by decide) (Int32.not_lt.mp c_57)))
  refine mJ_aload_n dX7_anchor_64 rfl ?_
  refine mJ_get dX7_anchor_65 f_X7_19 rfl rfl ?_
  refine mJ_aload_n dX7_anchor_68 rfl ?_
  refine mJ_get dX7_anchor_69 f_X7_12 rfl rfl ?_
  refine mJ_cV1v dX7_anchor_72 e_X0_keep n_X7_55 ⟨Nat.le_of_ble_eq_true rfl, Nat.le_of_ble_eq_true rfl⟩ rfl rfl (Nat.le_of_ble_eq_true rfl) (C_X0_keep ho hn) ?_
  refine mJ_aload_n dX7_anchor_75 rfl ?_
  refine mJ_get dX7_anchor_76 f_X7_12 rfl rfl ?_
  refine mJ_iconst (v := 4) dX7_anchor_79 rfl ?_
  refine mJ_iload dX7_anchor_80 rfl ?_
  refine mJ_iconst (v := 1) dX7_anchor_82 rfl ?_
  refine mJ_iadd dX7_anchor_83 ?_
  refine mJ_cV2v dX7_anchor_84 e_X5_put n_X7_59 ⟨Nat.le_of_ble_eq_true rfl, Nat.le_of_ble_eq_true rfl⟩ rfl rfl (Nat.le_of_ble_eq_true rfl) (C_X5_put) ?_
  refine mJ_aload_n dX7_anchor_87 rfl ?_
  refine mJ_get dX7_anchor_88 f_X7_12 rfl rfl ?_
  refine mJ_iload dX7_anchor_91 rfl ?_
  refine mJ_iconst (v := 0) dX7_anchor_93 rfl ?_
  refine mJ_iload_n dX7_anchor_94 rfl ?_
  refine mJ_cV3v dX7_anchor_95 e_X5_putAnchorValue n_X7_84 ⟨Nat.le_of_ble_eq_true rfl, Nat.le_of_ble_eq_true rfl⟩ rfl rfl (Nat.le_of_ble_eq_true rfl) (C_X5_putAnchorValue) ?_
  refine mJ_aload_n dX7_anchor_98 rfl ?_
  refine mJ_get dX7_anchor_99 f_X7_12 rfl rfl ?_
  refine mJ_iload dX7_anchor_102 rfl ?_
  refine mJ_iconst (v := 1) dX7_anchor_104 rfl ?_
  refine mJ_iload_n dX7_anchor_105 rfl ?_
  refine mJ_cV3v dX7_anchor_106 e_X5_putAnchorValue n_X7_84 ⟨Nat.le_of_ble_eq_true rfl, Nat.le_of_ble_eq_true rfl⟩ rfl rfl (Nat.le_of_ble_eq_true rfl) (C_X5_putAnchorValue) ?_
  refine mJ_aload_n dX7_anchor_109 rfl ?_
  refine mJ_get dX7_anchor_110 f_X7_12 rfl rfl ?_
  refine mJ_iload dX7_anchor_113 rfl ?_
  refine mJ_iconst (v := 2) dX7_anchor_115 rfl ?_
  refine mJ_iload_n dX7_anchor_116 rfl ?_
  refine mJ_cV3v dX7_anchor_117 e_X5_putAnchorValue n_X7_84 ⟨Nat.le_of_ble_eq_true rfl, Nat.le_of_ble_eq_true rfl⟩ rfl rfl (Nat.le_of_ble_eq_true rfl) (C_X5_putAnchorValue) ?_
  refine mJ_aload_n dX7_anchor_120 rfl ?_
  refine mJ_get dX7_anchor_121 f_X7_12 rfl rfl ?_
  refine mJ_iload dX7_anchor_124 rfl ?_
  refine mJ_iconst (v := 3) dX7_anchor_126 rfl ?_
  refine mJ_iload dX7_anchor_127 rfl ?_
  refine mJ_cV3v dX7_anchor_129 e_X5_putAnchorValue n_X7_84 ⟨Nat.le_of_ble_eq_true rfl, Nat.le_of_ble_eq_true rfl⟩ rfl rfl (Nat.le_of_ble_eq_true rfl) (C_X5_putAnchorValue) ?_
  refine mJ_aload_n dX7_anchor_132 rfl ?_
  refine mJ_get dX7_anchor_133 f_X7_26 rfl rfl ?_
  refine mJ_aload_n dX7_anchor_136 rfl ?_
  refine mJ_get dX7_anchor_137 f_X7_12 rfl rfl ?_
  refine mJ_cV1i dX7_anchor_140 e_X4_arrange n_X7_63 ⟨Nat.le_of_ble_eq_true rfl, Nat.le_of_ble_eq_true rfl⟩ rfl rfl (Nat.le_of_ble_eq_true rfl) (hj) ?_
  refine mJ_pop dX7_anchor_143 rfl ?_
  refine mJ_iload dX7_anchor_144 rfl ?_
  exact mJ_iret dX7_anchor_146 rfl (rfl) (rfl)
set_option maxHeartbeats 4000000 in
set_option maxRecDepth 100000 in
theorem C_X7_moveAnchor_bad {C W : aF} {o n : Nat} {RS SD XS YS OR : aF} {shn : Int32} {T1 : tT} {P1 : tP} {Od : tO} {T2 : tT} {P2 : tP} {v x y : Int32} (hb : ¬ (q_anchor C v ∧ q_in x 1000 ∧ q_in y 1000)) : mCt k_X7_moveAnchor [.ref 0, .int v, .int x, .int y] (cH C (W, nI o, nI n) (RS, SD, XS, YS, OR, shn) T1 P1 Od T2 P2) (some (.int (-10001))) (cH C (W, nI o, nI n) (RS, SD, XS, YS, OR, shn) T1 P1 Od T2 P2) := by
  refine mCt_intro (plainFor_of_name rfl) (Nat.le_of_ble_eq_true rfl) (m_all rfl) (ls := [_, _, _, _]) rfl ?_
  refine mJ_aload_n dX7_moveAnchor_0 rfl ?_
  refine mJ_iload_n dX7_moveAnchor_1 rfl ?_
  refine mJ_cV1i dX7_moveAnchor_2 e_X7_isAnchor n_X7_88 ⟨Nat.le_of_ble_eq_true rfl, Nat.le_of_ble_eq_true rfl⟩ rfl rfl (Nat.le_of_ble_eq_true rfl) (C_X7_isAnchor) ?_
  refine mJ_b2i (fun b_2 => ?_) (fun b_2 => ?_)
  · refine mJ_if_eq 28 dX7_moveAnchor_5 rfl (fun c => absurd c (by decide)) (fun _ => ?_)
    refine mJ_iload_n dX7_moveAnchor_8 rfl ?_
    refine mJ_sipush (v := 1000) dX7_moveAnchor_9 rfl ?_
    refine mJ_cS2i dX7_moveAnchor_12 e_X7_isWithin n_X7_67 ⟨Nat.le_of_ble_eq_true rfl, Nat.le_of_ble_eq_true rfl⟩ (Nat.le_of_ble_eq_true rfl) (C_X7_isWithin) ?_
    refine mJ_b2i (fun b_12 => ?_) (fun b_12 => ?_)
    · refine mJ_if_eq 28 dX7_moveAnchor_15 rfl (fun c => absurd c (by decide)) (fun _ => ?_)
      refine mJ_iload_n dX7_moveAnchor_18 rfl ?_
      refine mJ_sipush (v := 1000) dX7_moveAnchor_19 rfl ?_
      refine mJ_cS2i dX7_moveAnchor_22 e_X7_isWithin n_X7_67 ⟨Nat.le_of_ble_eq_true rfl, Nat.le_of_ble_eq_true rfl⟩ (Nat.le_of_ble_eq_true rfl) (C_X7_isWithin) ?_
      refine mJ_b2i (fun b_22 => ?_) (fun b_22 => ?_)
      · exact False.elim (by exact hb ⟨b_2, b_12, b_22⟩)
      · refine mJ_if_ne 32 dX7_moveAnchor_25 rfl (fun c => absurd c (by decide)) (fun _ => ?_)
        refine mJ_sipush (v := (-10001)) dX7_moveAnchor_28 rfl ?_
        exact mJ_iret dX7_moveAnchor_31 rfl (rfl) (rfl)
    · refine mJ_if_eq 28 dX7_moveAnchor_15 rfl (fun _ => ?_) (fun c => absurd c (by decide))
      refine mJ_sipush (v := (-10001)) dX7_moveAnchor_28 rfl ?_
      exact mJ_iret dX7_moveAnchor_31 rfl (rfl) (rfl)
  · refine mJ_if_eq 28 dX7_moveAnchor_5 rfl (fun _ => ?_) (fun c => absurd c (by decide))
    refine mJ_sipush (v := (-10001)) dX7_moveAnchor_28 rfl ?_
    exact mJ_iret dX7_moveAnchor_31 rfl (rfl) (rfl)
set_option maxHeartbeats 4000000 in
set_option maxRecDepth 100000 in
theorem C_X7_moveAnchor {C W : aF} {o n : Nat} {RS SD XS YS OR : aF} {shn : Int32} {T1 : tT} {P1 : tP} {Od : tO} {T2 : tT} {P2 : tP} {v x y : Int32} {d : aF} {nA nH nO : Nat} (ho : o < 5) (hn : n ≤ 5) (h1 : q_anchor C v) (h2 : q_in x 1000) (h3 : q_in y 1000) (B : bC (sA (sA C v 0 x) v 1 y) d nA nH nO) : ∃ (RS' SD' XS' YS' OR' : aF) (T1' : tT) (P1' : tP), sR d nH RS' SD' XS' YS' (p_all d nA nH nO).1 (p_all d nA nH nO).2.1 ∧ mCt k_X7_moveAnchor [.ref 0, .int v, .int x, .int y] (cH C (W, nI o, nI n) (RS, SD, XS, YS, OR, shn) T1 P1 Od T2 P2) (some (.int (p_all d nA nH nO).2.2)) (cH (sA (sA C v 0 x) v 1 y) (kH W C o n) (RS', SD', XS', YS', OR', (p_all d nA nH nO).2.2) (T1') (P1') Od T2 P2) := by
  obtain ⟨R1, R2, R3, R4, R5, R6, R7, hz, hj⟩ := C_X4_arrange (Hs := kH W C o n) (Od := Od) (T2 := T2) (P2 := P2) (RS := RS) (SD := SD) (XS := XS) (YS := YS) (OR := OR) (shn := shn) (T1 := T1) (P1 := P1) B
  refine ⟨R1, R2, R3, R4, R5, R6, R7, hz, ?_⟩
  refine mCt_intro (plainFor_of_name rfl) (Nat.le_of_ble_eq_true rfl) (m_all rfl) (ls := [_, _, _, _]) rfl ?_
  refine mJ_aload_n dX7_moveAnchor_0 rfl ?_
  refine mJ_iload_n dX7_moveAnchor_1 rfl ?_
  refine mJ_cV1i dX7_moveAnchor_2 e_X7_isAnchor n_X7_88 ⟨Nat.le_of_ble_eq_true rfl, Nat.le_of_ble_eq_true rfl⟩ rfl rfl (Nat.le_of_ble_eq_true rfl) (C_X7_isAnchor) ?_
  refine mJ_top (b2i_t h1) ?_
  refine mJ_if_eq 28 dX7_moveAnchor_5 rfl (fun c => absurd c (by decide)) (fun _ => ?_)
  refine mJ_iload_n dX7_moveAnchor_8 rfl ?_
  refine mJ_sipush (v := 1000) dX7_moveAnchor_9 rfl ?_
  refine mJ_cS2i dX7_moveAnchor_12 e_X7_isWithin n_X7_67 ⟨Nat.le_of_ble_eq_true rfl, Nat.le_of_ble_eq_true rfl⟩ (Nat.le_of_ble_eq_true rfl) (C_X7_isWithin) ?_
  refine mJ_top (b2i_t h2) ?_
  refine mJ_if_eq 28 dX7_moveAnchor_15 rfl (fun c => absurd c (by decide)) (fun _ => ?_)
  refine mJ_iload_n dX7_moveAnchor_18 rfl ?_
  refine mJ_sipush (v := 1000) dX7_moveAnchor_19 rfl ?_
  refine mJ_cS2i dX7_moveAnchor_22 e_X7_isWithin n_X7_67 ⟨Nat.le_of_ble_eq_true rfl, Nat.le_of_ble_eq_true rfl⟩ (Nat.le_of_ble_eq_true rfl) (C_X7_isWithin) ?_
  refine mJ_top (b2i_t h3) ?_
  refine mJ_if_ne 32 dX7_moveAnchor_25 rfl (fun _ => ?_) (fun c => absurd c (by decide))
  refine mJ_aload_n dX7_moveAnchor_32 rfl ?_
  refine mJ_get dX7_moveAnchor_33 f_X7_19 rfl rfl ?_
  refine mJ_aload_n dX7_moveAnchor_36 rfl ?_
  refine mJ_get dX7_moveAnchor_37 f_X7_12 rfl rfl ?_
  refine mJ_cV1v dX7_moveAnchor_40 e_X0_keep n_X7_55 ⟨Nat.le_of_ble_eq_true rfl, Nat.le_of_ble_eq_true rfl⟩ rfl rfl (Nat.le_of_ble_eq_true rfl) (C_X0_keep ho hn) ?_
  refine mJ_aload_n dX7_moveAnchor_43 rfl ?_
  refine mJ_get dX7_moveAnchor_44 f_X7_12 rfl rfl ?_
  refine mJ_iload_n dX7_moveAnchor_47 rfl ?_
  refine mJ_iconst (v := 0) dX7_moveAnchor_48 rfl ?_
  refine mJ_iload_n dX7_moveAnchor_49 rfl ?_
  refine mJ_cV3v dX7_moveAnchor_50 e_X5_putAnchorValue n_X7_84 ⟨Nat.le_of_ble_eq_true rfl, Nat.le_of_ble_eq_true rfl⟩ rfl rfl (Nat.le_of_ble_eq_true rfl) (C_X5_putAnchorValue) ?_
  refine mJ_aload_n dX7_moveAnchor_53 rfl ?_
  refine mJ_get dX7_moveAnchor_54 f_X7_12 rfl rfl ?_
  refine mJ_iload_n dX7_moveAnchor_57 rfl ?_
  refine mJ_iconst (v := 1) dX7_moveAnchor_58 rfl ?_
  refine mJ_iload_n dX7_moveAnchor_59 rfl ?_
  refine mJ_cV3v dX7_moveAnchor_60 e_X5_putAnchorValue n_X7_84 ⟨Nat.le_of_ble_eq_true rfl, Nat.le_of_ble_eq_true rfl⟩ rfl rfl (Nat.le_of_ble_eq_true rfl) (C_X5_putAnchorValue) ?_
  refine mJ_aload_n dX7_moveAnchor_63 rfl ?_
  refine mJ_get dX7_moveAnchor_64 f_X7_26 rfl rfl ?_
  refine mJ_aload_n dX7_moveAnchor_67 rfl ?_
  refine mJ_get dX7_moveAnchor_68 f_X7_12 rfl rfl ?_
  refine mJ_cV1i dX7_moveAnchor_71 e_X4_arrange n_X7_63 ⟨Nat.le_of_ble_eq_true rfl, Nat.le_of_ble_eq_true rfl⟩ rfl rfl (Nat.le_of_ble_eq_true rfl) (hj) ?_
  exact mJ_iret dX7_moveAnchor_74 rfl (rfl) (rfl)
set_option maxHeartbeats 4000000 in
set_option maxRecDepth 100000 in
theorem C_X7_hint_bad {C W : aF} {o n : Nat} {RS SD XS YS OR : aF} {shn : Int32} {T1 : tT} {P1 : tP} {Od : tO} {T2 : tT} {P2 : tP} {v w h s g : Int32} (hb : ¬ (q_anchor C v ∧ q_size w ∧ q_size h ∧ q_side s ∧ ¬ g < 0 ∧ g ≤ 2)) : mCt k_X7_hint [.ref 0, .int v, .int w, .int h, .int s, .int g] (cH C (W, nI o, nI n) (RS, SD, XS, YS, OR, shn) T1 P1 Od T2 P2) (some (.int (-10001))) (cH C (W, nI o, nI n) (RS, SD, XS, YS, OR, shn) T1 P1 Od T2 P2) := by
  refine mCt_intro (plainFor_of_name rfl) (Nat.le_of_ble_eq_true rfl) (m_all rfl) (ls := [_, _, _, _, _, _, _]) rfl ?_
  refine mJ_aload_n dX7_hint_0 rfl ?_
  refine mJ_iload_n dX7_hint_1 rfl ?_
  refine mJ_cV1i dX7_hint_2 e_X7_isAnchor n_X7_88 ⟨Nat.le_of_ble_eq_true rfl, Nat.le_of_ble_eq_true rfl⟩ rfl rfl (Nat.le_of_ble_eq_true rfl) (C_X7_isAnchor) ?_
  refine mJ_b2i (fun b_2 => ?_) (fun b_2 => ?_)
  · refine mJ_if_eq 22 dX7_hint_5 rfl (fun c => absurd c (by decide)) (fun _ => ?_)
    refine mJ_iload_n dX7_hint_8 rfl ?_
    refine mJ_cS1i dX7_hint_9 e_X7_isSize n_X7_77 ⟨Nat.le_of_ble_eq_true rfl, Nat.le_of_ble_eq_true rfl⟩ (Nat.le_of_ble_eq_true rfl) (C_X7_isSize) ?_
    refine mJ_b2i (fun b_9 => ?_) (fun b_9 => ?_)
    · refine mJ_if_eq 22 dX7_hint_12 rfl (fun c => absurd c (by decide)) (fun _ => ?_)
      refine mJ_iload_n dX7_hint_15 rfl ?_
      refine mJ_cS1i dX7_hint_16 e_X7_isSize n_X7_77 ⟨Nat.le_of_ble_eq_true rfl, Nat.le_of_ble_eq_true rfl⟩ (Nat.le_of_ble_eq_true rfl) (C_X7_isSize) ?_
      refine mJ_b2i (fun b_16 => ?_) (fun b_16 => ?_)
      · refine mJ_if_ne 26 dX7_hint_19 rfl (fun _ => ?_) (fun c => absurd c (by decide))
        refine mJ_iload dX7_hint_26 rfl ?_
        refine mJ_cS1i dX7_hint_28 e_X7_isSide n_X7_131 ⟨Nat.le_of_ble_eq_true rfl, Nat.le_of_ble_eq_true rfl⟩ (Nat.le_of_ble_eq_true rfl) (C_X7_isSide) ?_
        refine mJ_b2i (fun b_28 => ?_) (fun b_28 => ?_)
        · refine mJ_if_eq 49 dX7_hint_31 rfl (fun c => absurd c (by decide)) (fun _ => ?_)
          refine mJ_iload dX7_hint_34 rfl ?_
          refine mJ_if_lt 49 dX7_hint_36 rfl (fun c_36 => ?_) (fun c_36 => ?_)
          · refine mJ_sipush (v := (-10001)) dX7_hint_49 rfl ?_
            exact mJ_iret dX7_hint_52 rfl (rfl) (rfl)
          · refine mJ_iload dX7_hint_39 rfl ?_
            refine mJ_aload_n dX7_hint_41 rfl ?_
            refine mJ_iconst (v := 4) dX7_hint_42 rfl ?_
            refine mJ_cV1i dX7_hint_43 e_X7_highestValue n_X7_134 ⟨Nat.le_of_ble_eq_true rfl, Nat.le_of_ble_eq_true rfl⟩ rfl rfl (Nat.le_of_ble_eq_true rfl) (C_X7_highestValue) ?_
            refine mJ_top (show v_hv C 4 = 2 from rfl) ?_
            refine mJ_icmp_le 53 dX7_hint_46 rfl (fun c_46 => False.elim (by exact hb ⟨b_2, b_9, b_16, b_28, c_36, c_46⟩)) (fun c_46 => ?_)
            refine mJ_sipush (v := (-10001)) dX7_hint_49 rfl ?_
            exact mJ_iret dX7_hint_52 rfl (rfl) (rfl)
        · refine mJ_if_eq 49 dX7_hint_31 rfl (fun _ => ?_) (fun c => absurd c (by decide))
          refine mJ_sipush (v := (-10001)) dX7_hint_49 rfl ?_
          exact mJ_iret dX7_hint_52 rfl (rfl) (rfl)
      · refine mJ_if_ne 26 dX7_hint_19 rfl (fun c => absurd c (by decide)) (fun _ => ?_)
        refine mJ_sipush (v := (-10001)) dX7_hint_22 rfl ?_
        exact mJ_iret dX7_hint_25 rfl (rfl) (rfl)
    · refine mJ_if_eq 22 dX7_hint_12 rfl (fun _ => ?_) (fun c => absurd c (by decide))
      refine mJ_sipush (v := (-10001)) dX7_hint_22 rfl ?_
      exact mJ_iret dX7_hint_25 rfl (rfl) (rfl)
  · refine mJ_if_eq 22 dX7_hint_5 rfl (fun _ => ?_) (fun c => absurd c (by decide))
    refine mJ_sipush (v := (-10001)) dX7_hint_22 rfl ?_
    exact mJ_iret dX7_hint_25 rfl (rfl) (rfl)
set_option maxHeartbeats 4000000 in
set_option maxRecDepth 100000 in
theorem C_X7_hint_lim {C W : aF} {o n : Nat} {RS SD XS YS OR : aF} {shn : Int32} {T1 : tT} {P1 : tP} {Od : tO} {T2 : tT} {P2 : tP} {v w h s g : Int32} (h1 : q_anchor C v) (h2 : q_size w) (h3 : q_size h) (h4 : q_side s) (h5 : ¬ g < 0) (h6 : g ≤ 2) (hH : gG C 5 = 12) : mCt k_X7_hint [.ref 0, .int v, .int w, .int h, .int s, .int g] (cH C (W, nI o, nI n) (RS, SD, XS, YS, OR, shn) T1 P1 Od T2 P2) (some (.int (-10003))) (cH C (W, nI o, nI n) (RS, SD, XS, YS, OR, shn) T1 P1 Od T2 P2) := by
  refine mCt_intro (plainFor_of_name rfl) (Nat.le_of_ble_eq_true rfl) (m_all rfl) (ls := [_, _, _, _, _, _, _]) rfl ?_
  refine mJ_aload_n dX7_hint_0 rfl ?_
  refine mJ_iload_n dX7_hint_1 rfl ?_
  refine mJ_cV1i dX7_hint_2 e_X7_isAnchor n_X7_88 ⟨Nat.le_of_ble_eq_true rfl, Nat.le_of_ble_eq_true rfl⟩ rfl rfl (Nat.le_of_ble_eq_true rfl) (C_X7_isAnchor) ?_
  refine mJ_top (b2i_t h1) ?_
  refine mJ_if_eq 22 dX7_hint_5 rfl (fun c => absurd c (by decide)) (fun _ => ?_)
  refine mJ_iload_n dX7_hint_8 rfl ?_
  refine mJ_cS1i dX7_hint_9 e_X7_isSize n_X7_77 ⟨Nat.le_of_ble_eq_true rfl, Nat.le_of_ble_eq_true rfl⟩ (Nat.le_of_ble_eq_true rfl) (C_X7_isSize) ?_
  refine mJ_top (b2i_t h2) ?_
  refine mJ_if_eq 22 dX7_hint_12 rfl (fun c => absurd c (by decide)) (fun _ => ?_)
  refine mJ_iload_n dX7_hint_15 rfl ?_
  refine mJ_cS1i dX7_hint_16 e_X7_isSize n_X7_77 ⟨Nat.le_of_ble_eq_true rfl, Nat.le_of_ble_eq_true rfl⟩ (Nat.le_of_ble_eq_true rfl) (C_X7_isSize) ?_
  refine mJ_top (b2i_t h3) ?_
  refine mJ_if_ne 26 dX7_hint_19 rfl (fun _ => ?_) (fun c => absurd c (by decide))
  refine mJ_iload dX7_hint_26 rfl ?_
  refine mJ_cS1i dX7_hint_28 e_X7_isSide n_X7_131 ⟨Nat.le_of_ble_eq_true rfl, Nat.le_of_ble_eq_true rfl⟩ (Nat.le_of_ble_eq_true rfl) (C_X7_isSide) ?_
  refine mJ_top (b2i_t h4) ?_
  refine mJ_if_eq 49 dX7_hint_31 rfl (fun c => absurd c (by decide)) (fun _ => ?_)
  refine mJ_iload dX7_hint_34 rfl ?_
  refine mJ_if_lt 49 dX7_hint_36 rfl (fun c_36 => False.elim (by exact h5 c_36)) (fun c_36 => ?_)
  refine mJ_iload dX7_hint_39 rfl ?_
  refine mJ_aload_n dX7_hint_41 rfl ?_
  refine mJ_iconst (v := 4) dX7_hint_42 rfl ?_
  refine mJ_cV1i dX7_hint_43 e_X7_highestValue n_X7_134 ⟨Nat.le_of_ble_eq_true rfl, Nat.le_of_ble_eq_true rfl⟩ rfl rfl (Nat.le_of_ble_eq_true rfl) (C_X7_highestValue) ?_
  refine mJ_top (show v_hv C 4 = 2 from rfl) ?_
  refine mJ_icmp_le 53 dX7_hint_46 rfl (fun c_46 => ?_) (fun c_46 => False.elim (by exact c_46 h6))
  refine mJ_aload_n dX7_hint_53 rfl ?_
  refine mJ_get dX7_hint_54 f_X7_12 rfl rfl ?_
  refine mJ_iconst (v := 5) dX7_hint_57 rfl ?_
  refine mJ_cV1i dX7_hint_58 e_X5_get n_X7_80 ⟨Nat.le_of_ble_eq_true rfl, Nat.le_of_ble_eq_true rfl⟩ rfl rfl (Nat.le_of_ble_eq_true rfl) (C_X5_get) ?_
  refine mJ_istore dX7_hint_61 (Nat.le_of_ble_eq_true rfl) (ls2 := [_, _, _, _, _, _, _]) rfl ?_
  refine mJ_iload dX7_hint_63 rfl ?_
  refine mJ_bipush (v := 12) dX7_hint_65 rfl ?_
  refine mJ_icmp_lt 74 dX7_hint_67 rfl (fun c_67 => False.elim (by rw [hH] at c_67; exact absurd c_67 (by decide))) (fun c_67 => ?_)
  refine mJ_sipush (v := (-10003)) dX7_hint_70 rfl ?_
  exact mJ_iret dX7_hint_73 rfl (rfl) (rfl)
set_option maxHeartbeats 4000000 in
set_option maxRecDepth 100000 in
theorem C_X7_hint {C W : aF} {o n : Nat} {RS SD XS YS OR : aF} {shn : Int32} {T1 : tT} {P1 : tP} {Od : tO} {T2 : tT} {P2 : tP} {v w h s g : Int32} {k : Nat} {d : aF} {nA nH nO : Nat} (ho : o < 5) (hn : n ≤ 5) (h1 : q_anchor C v) (h2 : q_size w) (h3 : q_size h) (h4 : q_side s) (h5 : ¬ g < 0) (h6 : g ≤ 2) (hH : gG C 5 = nI k) (hk : k < 12) (B : bC (sH (sH (sH (sH (sH (sH (sH (sH (sH (sH (sP C 5 (nI k + 1)) (nI k) 0 v) (nI k) 1 w) (nI k) 2 h) (nI k) 3 s) (nI k) 4 g) (nI k) 5 0) (nI k) 6 0) (nI k) 7 0) (nI k) 8 0) (nI k) 9 (-1)) d nA nH nO) : ∃ (RS' SD' XS' YS' OR' : aF) (T1' : tT) (P1' : tP), sR d nH RS' SD' XS' YS' (p_all d nA nH nO).1 (p_all d nA nH nO).2.1 ∧ mCt k_X7_hint [.ref 0, .int v, .int w, .int h, .int s, .int g] (cH C (W, nI o, nI n) (RS, SD, XS, YS, OR, shn) T1 P1 Od T2 P2) (some (.int (nI k))) (cH (sH (sH (sH (sH (sH (sH (sH (sH (sH (sH (sP C 5 (nI k + 1)) (nI k) 0 v) (nI k) 1 w) (nI k) 2 h) (nI k) 3 s) (nI k) 4 g) (nI k) 5 0) (nI k) 6 0) (nI k) 7 0) (nI k) 8 0) (nI k) 9 (-1)) (kH W C o n) (RS', SD', XS', YS', OR', (p_all d nA nH nO).2.2) (T1') (P1') Od T2 P2) := by
  obtain ⟨R1, R2, R3, R4, R5, R6, R7, hz, hj⟩ := C_X4_arrange (Hs := kH W C o n) (Od := Od) (T2 := T2) (P2 := P2) (RS := RS) (SD := SD) (XS := XS) (YS := YS) (OR := OR) (shn := shn) (T1 := T1) (P1 := P1) B
  refine ⟨R1, R2, R3, R4, R5, R6, R7, hz, ?_⟩
  refine mCt_intro (plainFor_of_name rfl) (Nat.le_of_ble_eq_true rfl) (m_all rfl) (ls := [_, _, _, _, _, _, _]) rfl ?_
  refine mJ_aload_n dX7_hint_0 rfl ?_
  refine mJ_iload_n dX7_hint_1 rfl ?_
  refine mJ_cV1i dX7_hint_2 e_X7_isAnchor n_X7_88 ⟨Nat.le_of_ble_eq_true rfl, Nat.le_of_ble_eq_true rfl⟩ rfl rfl (Nat.le_of_ble_eq_true rfl) (C_X7_isAnchor) ?_
  refine mJ_top (b2i_t h1) ?_
  refine mJ_if_eq 22 dX7_hint_5 rfl (fun c => absurd c (by decide)) (fun _ => ?_)
  refine mJ_iload_n dX7_hint_8 rfl ?_
  refine mJ_cS1i dX7_hint_9 e_X7_isSize n_X7_77 ⟨Nat.le_of_ble_eq_true rfl, Nat.le_of_ble_eq_true rfl⟩ (Nat.le_of_ble_eq_true rfl) (C_X7_isSize) ?_
  refine mJ_top (b2i_t h2) ?_
  refine mJ_if_eq 22 dX7_hint_12 rfl (fun c => absurd c (by decide)) (fun _ => ?_)
  refine mJ_iload_n dX7_hint_15 rfl ?_
  refine mJ_cS1i dX7_hint_16 e_X7_isSize n_X7_77 ⟨Nat.le_of_ble_eq_true rfl, Nat.le_of_ble_eq_true rfl⟩ (Nat.le_of_ble_eq_true rfl) (C_X7_isSize) ?_
  refine mJ_top (b2i_t h3) ?_
  refine mJ_if_ne 26 dX7_hint_19 rfl (fun _ => ?_) (fun c => absurd c (by decide))
  refine mJ_iload dX7_hint_26 rfl ?_
  refine mJ_cS1i dX7_hint_28 e_X7_isSide n_X7_131 ⟨Nat.le_of_ble_eq_true rfl, Nat.le_of_ble_eq_true rfl⟩ (Nat.le_of_ble_eq_true rfl) (C_X7_isSide) ?_
  refine mJ_top (b2i_t h4) ?_
  refine mJ_if_eq 49 dX7_hint_31 rfl (fun c => absurd c (by decide)) (fun _ => ?_)
  refine mJ_iload dX7_hint_34 rfl ?_
  refine mJ_if_lt 49 dX7_hint_36 rfl (fun c_36 => False.elim (by exact h5 c_36)) (fun c_36 => ?_)
  refine mJ_iload dX7_hint_39 rfl ?_
  refine mJ_aload_n dX7_hint_41 rfl ?_
  refine mJ_iconst (v := 4) dX7_hint_42 rfl ?_
  refine mJ_cV1i dX7_hint_43 e_X7_highestValue n_X7_134 ⟨Nat.le_of_ble_eq_true rfl, Nat.le_of_ble_eq_true rfl⟩ rfl rfl (Nat.le_of_ble_eq_true rfl) (C_X7_highestValue) ?_
  refine mJ_top (show v_hv C 4 = 2 from rfl) ?_
  refine mJ_icmp_le 53 dX7_hint_46 rfl (fun c_46 => ?_) (fun c_46 => False.elim (by exact c_46 h6))
  refine mJ_aload_n dX7_hint_53 rfl ?_
  refine mJ_get dX7_hint_54 f_X7_12 rfl rfl ?_
  refine mJ_iconst (v := 5) dX7_hint_57 rfl ?_
  refine mJ_cV1i dX7_hint_58 e_X5_get n_X7_80 ⟨Nat.le_of_ble_eq_true rfl, Nat.le_of_ble_eq_true rfl⟩ rfl rfl (Nat.le_of_ble_eq_true rfl) (C_X5_get) ?_
  refine mJ_top hH ?_
  refine mJ_istore dX7_hint_61 (Nat.le_of_ble_eq_true rfl) (ls2 := [_, _, _, _, _, _, _]) rfl ?_
  refine mJ_iload dX7_hint_63 rfl ?_
  refine mJ_bipush (v := 12) dX7_hint_65 rfl ?_
  refine mJ_icmp_lt 74 dX7_hint_67 rfl (fun c_67 => ?_) (fun c_67 => False.elim (by exact nI_ge hk (by decide) (Int32.not_lt.mp c_67)))
  refine mJ_aload_n dX7_hint_74 rfl ?_
  refine mJ_get dX7_hint_75 f_X7_19 rfl rfl ?_
  refine mJ_aload_n dX7_hint_78 rfl ?_
  refine mJ_get dX7_hint_79 f_X7_12 rfl rfl ?_
  refine mJ_cV1v dX7_hint_82 e_X0_keep n_X7_55 ⟨Nat.le_of_ble_eq_true rfl, Nat.le_of_ble_eq_true rfl⟩ rfl rfl (Nat.le_of_ble_eq_true rfl) (C_X0_keep ho hn) ?_
  refine mJ_aload_n dX7_hint_85 rfl ?_
  refine mJ_get dX7_hint_86 f_X7_12 rfl rfl ?_
  refine mJ_iconst (v := 5) dX7_hint_89 rfl ?_
  refine mJ_iload dX7_hint_90 rfl ?_
  refine mJ_iconst (v := 1) dX7_hint_92 rfl ?_
  refine mJ_iadd dX7_hint_93 ?_
  refine mJ_cV2v dX7_hint_94 e_X5_put n_X7_59 ⟨Nat.le_of_ble_eq_true rfl, Nat.le_of_ble_eq_true rfl⟩ rfl rfl (Nat.le_of_ble_eq_true rfl) (C_X5_put) ?_
  refine mJ_aload_n dX7_hint_97 rfl ?_
  refine mJ_get dX7_hint_98 f_X7_12 rfl rfl ?_
  refine mJ_iload dX7_hint_101 rfl ?_
  refine mJ_iconst (v := 0) dX7_hint_103 rfl ?_
  refine mJ_iload_n dX7_hint_104 rfl ?_
  refine mJ_cV3v dX7_hint_105 e_X5_putHintValue n_X7_137 ⟨Nat.le_of_ble_eq_true rfl, Nat.le_of_ble_eq_true rfl⟩ rfl rfl (Nat.le_of_ble_eq_true rfl) (C_X5_putHintValue) ?_
  refine mJ_aload_n dX7_hint_108 rfl ?_
  refine mJ_get dX7_hint_109 f_X7_12 rfl rfl ?_
  refine mJ_iload dX7_hint_112 rfl ?_
  refine mJ_iconst (v := 1) dX7_hint_114 rfl ?_
  refine mJ_iload_n dX7_hint_115 rfl ?_
  refine mJ_cV3v dX7_hint_116 e_X5_putHintValue n_X7_137 ⟨Nat.le_of_ble_eq_true rfl, Nat.le_of_ble_eq_true rfl⟩ rfl rfl (Nat.le_of_ble_eq_true rfl) (C_X5_putHintValue) ?_
  refine mJ_aload_n dX7_hint_119 rfl ?_
  refine mJ_get dX7_hint_120 f_X7_12 rfl rfl ?_
  refine mJ_iload dX7_hint_123 rfl ?_
  refine mJ_iconst (v := 2) dX7_hint_125 rfl ?_
  refine mJ_iload_n dX7_hint_126 rfl ?_
  refine mJ_cV3v dX7_hint_127 e_X5_putHintValue n_X7_137 ⟨Nat.le_of_ble_eq_true rfl, Nat.le_of_ble_eq_true rfl⟩ rfl rfl (Nat.le_of_ble_eq_true rfl) (C_X5_putHintValue) ?_
  refine mJ_aload_n dX7_hint_130 rfl ?_
  refine mJ_get dX7_hint_131 f_X7_12 rfl rfl ?_
  refine mJ_iload dX7_hint_134 rfl ?_
  refine mJ_iconst (v := 3) dX7_hint_136 rfl ?_
  refine mJ_iload dX7_hint_137 rfl ?_
  refine mJ_cV3v dX7_hint_139 e_X5_putHintValue n_X7_137 ⟨Nat.le_of_ble_eq_true rfl, Nat.le_of_ble_eq_true rfl⟩ rfl rfl (Nat.le_of_ble_eq_true rfl) (C_X5_putHintValue) ?_
  refine mJ_aload_n dX7_hint_142 rfl ?_
  refine mJ_get dX7_hint_143 f_X7_12 rfl rfl ?_
  refine mJ_iload dX7_hint_146 rfl ?_
  refine mJ_iconst (v := 4) dX7_hint_148 rfl ?_
  refine mJ_iload dX7_hint_149 rfl ?_
  refine mJ_cV3v dX7_hint_151 e_X5_putHintValue n_X7_137 ⟨Nat.le_of_ble_eq_true rfl, Nat.le_of_ble_eq_true rfl⟩ rfl rfl (Nat.le_of_ble_eq_true rfl) (C_X5_putHintValue) ?_
  refine mJ_aload_n dX7_hint_154 rfl ?_
  refine mJ_get dX7_hint_155 f_X7_12 rfl rfl ?_
  refine mJ_iload dX7_hint_158 rfl ?_
  refine mJ_iconst (v := 5) dX7_hint_160 rfl ?_
  refine mJ_iconst (v := 0) dX7_hint_161 rfl ?_
  refine mJ_cV3v dX7_hint_162 e_X5_putHintValue n_X7_137 ⟨Nat.le_of_ble_eq_true rfl, Nat.le_of_ble_eq_true rfl⟩ rfl rfl (Nat.le_of_ble_eq_true rfl) (C_X5_putHintValue) ?_
  refine mJ_aload_n dX7_hint_165 rfl ?_
  refine mJ_get dX7_hint_166 f_X7_12 rfl rfl ?_
  refine mJ_iload dX7_hint_169 rfl ?_
  refine mJ_bipush (v := 6) dX7_hint_171 rfl ?_
  refine mJ_iconst (v := 0) dX7_hint_173 rfl ?_
  refine mJ_cV3v dX7_hint_174 e_X5_putHintValue n_X7_137 ⟨Nat.le_of_ble_eq_true rfl, Nat.le_of_ble_eq_true rfl⟩ rfl rfl (Nat.le_of_ble_eq_true rfl) (C_X5_putHintValue) ?_
  refine mJ_aload_n dX7_hint_177 rfl ?_
  refine mJ_get dX7_hint_178 f_X7_12 rfl rfl ?_
  refine mJ_iload dX7_hint_181 rfl ?_
  refine mJ_bipush (v := 7) dX7_hint_183 rfl ?_
  refine mJ_iconst (v := 0) dX7_hint_185 rfl ?_
  refine mJ_cV3v dX7_hint_186 e_X5_putHintValue n_X7_137 ⟨Nat.le_of_ble_eq_true rfl, Nat.le_of_ble_eq_true rfl⟩ rfl rfl (Nat.le_of_ble_eq_true rfl) (C_X5_putHintValue) ?_
  refine mJ_aload_n dX7_hint_189 rfl ?_
  refine mJ_get dX7_hint_190 f_X7_12 rfl rfl ?_
  refine mJ_iload dX7_hint_193 rfl ?_
  refine mJ_bipush (v := 8) dX7_hint_195 rfl ?_
  refine mJ_iconst (v := 0) dX7_hint_197 rfl ?_
  refine mJ_cV3v dX7_hint_198 e_X5_putHintValue n_X7_137 ⟨Nat.le_of_ble_eq_true rfl, Nat.le_of_ble_eq_true rfl⟩ rfl rfl (Nat.le_of_ble_eq_true rfl) (C_X5_putHintValue) ?_
  refine mJ_aload_n dX7_hint_201 rfl ?_
  refine mJ_get dX7_hint_202 f_X7_12 rfl rfl ?_
  refine mJ_iload dX7_hint_205 rfl ?_
  refine mJ_bipush (v := 9) dX7_hint_207 rfl ?_
  refine mJ_iconst (v := (-1)) dX7_hint_209 rfl ?_
  refine mJ_cV3v dX7_hint_210 e_X5_putHintValue n_X7_137 ⟨Nat.le_of_ble_eq_true rfl, Nat.le_of_ble_eq_true rfl⟩ rfl rfl (Nat.le_of_ble_eq_true rfl) (C_X5_putHintValue) ?_
  refine mJ_aload_n dX7_hint_213 rfl ?_
  refine mJ_get dX7_hint_214 f_X7_26 rfl rfl ?_
  refine mJ_aload_n dX7_hint_217 rfl ?_
  refine mJ_get dX7_hint_218 f_X7_12 rfl rfl ?_
  refine mJ_cV1i dX7_hint_221 e_X4_arrange n_X7_63 ⟨Nat.le_of_ble_eq_true rfl, Nat.le_of_ble_eq_true rfl⟩ rfl rfl (Nat.le_of_ble_eq_true rfl) (hj) ?_
  refine mJ_pop dX7_hint_224 rfl ?_
  refine mJ_iload dX7_hint_225 rfl ?_
  exact mJ_iret dX7_hint_227 rfl (rfl) (rfl)
set_option maxHeartbeats 4000000 in
set_option maxRecDepth 100000 in
theorem C_X7_alter_bad {C W : aF} {o n : Nat} {RS SD XS YS OR : aF} {shn : Int32} {T1 : tT} {P1 : tP} {Od : tO} {T2 : tT} {P2 : tP} {h w v : Int32} (hb : ¬ (q_hint C h ∧ ¬ w < 0 ∧ w < 8 ∧ ¬ v < v_lv w ∧ v ≤ v_hv C w)) : mCt k_X7_alter [.ref 0, .int h, .int w, .int v] (cH C (W, nI o, nI n) (RS, SD, XS, YS, OR, shn) T1 P1 Od T2 P2) (some (.int (-10001))) (cH C (W, nI o, nI n) (RS, SD, XS, YS, OR, shn) T1 P1 Od T2 P2) := by
  refine mCt_intro (plainFor_of_name rfl) (Nat.le_of_ble_eq_true rfl) (m_all rfl) (ls := [_, _, _, _, _]) rfl ?_
  refine mJ_aload_n dX7_alter_0 rfl ?_
  refine mJ_iload_n dX7_alter_1 rfl ?_
  refine mJ_cV1i dX7_alter_2 e_X7_isHint n_X7_140 ⟨Nat.le_of_ble_eq_true rfl, Nat.le_of_ble_eq_true rfl⟩ rfl rfl (Nat.le_of_ble_eq_true rfl) (C_X7_isHint) ?_
  refine mJ_b2i (fun b_2 => ?_) (fun b_2 => ?_)
  · refine mJ_if_eq 18 dX7_alter_5 rfl (fun c => absurd c (by decide)) (fun _ => ?_)
    refine mJ_iload_n dX7_alter_8 rfl ?_
    refine mJ_if_lt 18 dX7_alter_9 rfl (fun c_9 => ?_) (fun c_9 => ?_)
    · refine mJ_sipush (v := (-10001)) dX7_alter_18 rfl ?_
      exact mJ_iret dX7_alter_21 rfl (rfl) (rfl)
    · refine mJ_iload_n dX7_alter_12 rfl ?_
      refine mJ_bipush (v := 8) dX7_alter_13 rfl ?_
      refine mJ_icmp_lt 22 dX7_alter_15 rfl (fun c_15 => ?_) (fun c_15 => ?_)
      · refine mJ_iload_n dX7_alter_22 rfl ?_
        refine mJ_iload_n dX7_alter_23 rfl ?_
        refine mJ_cS1i dX7_alter_24 e_X7_lowestValue n_X7_143 ⟨Nat.le_of_ble_eq_true rfl, Nat.le_of_ble_eq_true rfl⟩ (Nat.le_of_ble_eq_true rfl) (C_X7_lowestValue) ?_
        refine mJ_icmp_lt 39 dX7_alter_27 rfl (fun c_27 => ?_) (fun c_27 => ?_)
        · refine mJ_sipush (v := (-10001)) dX7_alter_39 rfl ?_
          exact mJ_iret dX7_alter_42 rfl (rfl) (rfl)
        · refine mJ_iload_n dX7_alter_30 rfl ?_
          refine mJ_aload_n dX7_alter_31 rfl ?_
          refine mJ_iload_n dX7_alter_32 rfl ?_
          refine mJ_cV1i dX7_alter_33 e_X7_highestValue n_X7_134 ⟨Nat.le_of_ble_eq_true rfl, Nat.le_of_ble_eq_true rfl⟩ rfl rfl (Nat.le_of_ble_eq_true rfl) (C_X7_highestValue) ?_
          refine mJ_icmp_le 43 dX7_alter_36 rfl (fun c_36 => False.elim (by exact hb ⟨b_2, c_9, c_15, c_27, c_36⟩)) (fun c_36 => ?_)
          refine mJ_sipush (v := (-10001)) dX7_alter_39 rfl ?_
          exact mJ_iret dX7_alter_42 rfl (rfl) (rfl)
      · refine mJ_sipush (v := (-10001)) dX7_alter_18 rfl ?_
        exact mJ_iret dX7_alter_21 rfl (rfl) (rfl)
  · refine mJ_if_eq 18 dX7_alter_5 rfl (fun _ => ?_) (fun c => absurd c (by decide))
    refine mJ_sipush (v := (-10001)) dX7_alter_18 rfl ?_
    exact mJ_iret dX7_alter_21 rfl (rfl) (rfl)
set_option maxHeartbeats 4000000 in
set_option maxRecDepth 100000 in
theorem C_X7_alter_f {C W : aF} {o n : Nat} {RS SD XS YS OR : aF} {shn : Int32} {T1 : tT} {P1 : tP} {Od : tO} {T2 : tT} {P2 : tP} {h w v : Int32} {d : aF} {nA nH nO : Nat} (ho : o < 5) (hn : n ≤ 5) (h1 : q_hint C h) (h2 : ¬ w < 0) (h3 : w < 8) (h4 : ¬ v < v_lv w) (h5 : v ≤ v_hv C w) (h6 : w = 0 ∨ w = 3) (B : bC (sH (sH C h w v) h 9 (-1)) d nA nH nO) : ∃ (RS' SD' XS' YS' OR' : aF) (T1' : tT) (P1' : tP), sR d nH RS' SD' XS' YS' (p_all d nA nH nO).1 (p_all d nA nH nO).2.1 ∧ mCt k_X7_alter [.ref 0, .int h, .int w, .int v] (cH C (W, nI o, nI n) (RS, SD, XS, YS, OR, shn) T1 P1 Od T2 P2) (some (.int (gH C h w))) (cH (sH (sH C h w v) h 9 (-1)) (kH W C o n) (RS', SD', XS', YS', OR', (p_all d nA nH nO).2.2) (T1') (P1') Od T2 P2) := by
  obtain ⟨R1, R2, R3, R4, R5, R6, R7, hz, hj⟩ := C_X4_arrange (Hs := kH W C o n) (Od := Od) (T2 := T2) (P2 := P2) (RS := RS) (SD := SD) (XS := XS) (YS := YS) (OR := OR) (shn := shn) (T1 := T1) (P1 := P1) B
  refine ⟨R1, R2, R3, R4, R5, R6, R7, hz, ?_⟩
  refine mCt_intro (plainFor_of_name rfl) (Nat.le_of_ble_eq_true rfl) (m_all rfl) (ls := [_, _, _, _, _]) rfl ?_
  refine mJ_aload_n dX7_alter_0 rfl ?_
  refine mJ_iload_n dX7_alter_1 rfl ?_
  refine mJ_cV1i dX7_alter_2 e_X7_isHint n_X7_140 ⟨Nat.le_of_ble_eq_true rfl, Nat.le_of_ble_eq_true rfl⟩ rfl rfl (Nat.le_of_ble_eq_true rfl) (C_X7_isHint) ?_
  refine mJ_top (b2i_t h1) ?_
  refine mJ_if_eq 18 dX7_alter_5 rfl (fun c => absurd c (by decide)) (fun _ => ?_)
  refine mJ_iload_n dX7_alter_8 rfl ?_
  refine mJ_if_lt 18 dX7_alter_9 rfl (fun c_9 => False.elim (by exact h2 c_9)) (fun c_9 => ?_)
  refine mJ_iload_n dX7_alter_12 rfl ?_
  refine mJ_bipush (v := 8) dX7_alter_13 rfl ?_
  refine mJ_icmp_lt 22 dX7_alter_15 rfl (fun c_15 => ?_) (fun c_15 => False.elim (by exact c_15 h3))
  refine mJ_iload_n dX7_alter_22 rfl ?_
  refine mJ_iload_n dX7_alter_23 rfl ?_
  refine mJ_cS1i dX7_alter_24 e_X7_lowestValue n_X7_143 ⟨Nat.le_of_ble_eq_true rfl, Nat.le_of_ble_eq_true rfl⟩ (Nat.le_of_ble_eq_true rfl) (C_X7_lowestValue) ?_
  refine mJ_icmp_lt 39 dX7_alter_27 rfl (fun c_27 => False.elim (by exact h4 c_27)) (fun c_27 => ?_)
  refine mJ_iload_n dX7_alter_30 rfl ?_
  refine mJ_aload_n dX7_alter_31 rfl ?_
  refine mJ_iload_n dX7_alter_32 rfl ?_
  refine mJ_cV1i dX7_alter_33 e_X7_highestValue n_X7_134 ⟨Nat.le_of_ble_eq_true rfl, Nat.le_of_ble_eq_true rfl⟩ rfl rfl (Nat.le_of_ble_eq_true rfl) (C_X7_highestValue) ?_
  refine mJ_icmp_le 43 dX7_alter_36 rfl (fun c_36 => ?_) (fun c_36 => False.elim (by exact c_36 h5))
  refine mJ_aload_n dX7_alter_43 rfl ?_
  refine mJ_get dX7_alter_44 f_X7_12 rfl rfl ?_
  refine mJ_iload_n dX7_alter_47 rfl ?_
  refine mJ_iload_n dX7_alter_48 rfl ?_
  refine mJ_cV2i dX7_alter_49 e_X5_hintValue n_X7_146 ⟨Nat.le_of_ble_eq_true rfl, Nat.le_of_ble_eq_true rfl⟩ rfl rfl (Nat.le_of_ble_eq_true rfl) (C_X5_hintValue) ?_
  refine mJ_istore dX7_alter_52 (Nat.le_of_ble_eq_true rfl) (ls2 := [_, _, _, _, _]) rfl ?_
  refine mJ_aload_n dX7_alter_54 rfl ?_
  refine mJ_get dX7_alter_55 f_X7_19 rfl rfl ?_
  refine mJ_aload_n dX7_alter_58 rfl ?_
  refine mJ_get dX7_alter_59 f_X7_12 rfl rfl ?_
  refine mJ_cV1v dX7_alter_62 e_X0_keep n_X7_55 ⟨Nat.le_of_ble_eq_true rfl, Nat.le_of_ble_eq_true rfl⟩ rfl rfl (Nat.le_of_ble_eq_true rfl) (C_X0_keep ho hn) ?_
  refine mJ_aload_n dX7_alter_65 rfl ?_
  refine mJ_get dX7_alter_66 f_X7_12 rfl rfl ?_
  refine mJ_iload_n dX7_alter_69 rfl ?_
  refine mJ_iload_n dX7_alter_70 rfl ?_
  refine mJ_iload_n dX7_alter_71 rfl ?_
  refine mJ_cV3v dX7_alter_72 e_X5_putHintValue n_X7_137 ⟨Nat.le_of_ble_eq_true rfl, Nat.le_of_ble_eq_true rfl⟩ rfl rfl (Nat.le_of_ble_eq_true rfl) (C_X5_putHintValue) ?_
  refine mJ_iload_n dX7_alter_75 rfl ?_
  refine mJ_if_eq 84 dX7_alter_76 rfl (fun c_76 => ?_) (fun c_76 => ?_)
  · refine mJ_aload_n dX7_alter_84 rfl ?_
    refine mJ_get dX7_alter_85 f_X7_12 rfl rfl ?_
    refine mJ_iload_n dX7_alter_88 rfl ?_
    refine mJ_bipush (v := 9) dX7_alter_89 rfl ?_
    refine mJ_iconst (v := (-1)) dX7_alter_91 rfl ?_
    refine mJ_cV3v dX7_alter_92 e_X5_putHintValue n_X7_137 ⟨Nat.le_of_ble_eq_true rfl, Nat.le_of_ble_eq_true rfl⟩ rfl rfl (Nat.le_of_ble_eq_true rfl) (C_X5_putHintValue) ?_
    refine mJ_aload_n dX7_alter_95 rfl ?_
    refine mJ_get dX7_alter_96 f_X7_26 rfl rfl ?_
    refine mJ_aload_n dX7_alter_99 rfl ?_
    refine mJ_get dX7_alter_100 f_X7_12 rfl rfl ?_
    refine mJ_cV1i dX7_alter_103 e_X4_arrange n_X7_63 ⟨Nat.le_of_ble_eq_true rfl, Nat.le_of_ble_eq_true rfl⟩ rfl rfl (Nat.le_of_ble_eq_true rfl) (hj) ?_
    refine mJ_pop dX7_alter_106 rfl ?_
    refine mJ_iload dX7_alter_107 rfl ?_
    exact mJ_iret dX7_alter_109 rfl (rfl) (rfl)
  · refine mJ_iload_n dX7_alter_79 rfl ?_
    refine mJ_iconst (v := 3) dX7_alter_80 rfl ?_
    refine mJ_icmp_ne 95 dX7_alter_81 rfl (fun c_81 => False.elim (by exact h6.elim c_76 c_81)) (fun c_81 => ?_)
    refine mJ_aload_n dX7_alter_84 rfl ?_
    refine mJ_get dX7_alter_85 f_X7_12 rfl rfl ?_
    refine mJ_iload_n dX7_alter_88 rfl ?_
    refine mJ_bipush (v := 9) dX7_alter_89 rfl ?_
    refine mJ_iconst (v := (-1)) dX7_alter_91 rfl ?_
    refine mJ_cV3v dX7_alter_92 e_X5_putHintValue n_X7_137 ⟨Nat.le_of_ble_eq_true rfl, Nat.le_of_ble_eq_true rfl⟩ rfl rfl (Nat.le_of_ble_eq_true rfl) (C_X5_putHintValue) ?_
    refine mJ_aload_n dX7_alter_95 rfl ?_
    refine mJ_get dX7_alter_96 f_X7_26 rfl rfl ?_
    refine mJ_aload_n dX7_alter_99 rfl ?_
    refine mJ_get dX7_alter_100 f_X7_12 rfl rfl ?_
    refine mJ_cV1i dX7_alter_103 e_X4_arrange n_X7_63 ⟨Nat.le_of_ble_eq_true rfl, Nat.le_of_ble_eq_true rfl⟩ rfl rfl (Nat.le_of_ble_eq_true rfl) (hj) ?_
    refine mJ_pop dX7_alter_106 rfl ?_
    refine mJ_iload dX7_alter_107 rfl ?_
    exact mJ_iret dX7_alter_109 rfl (rfl) (rfl)
set_option maxHeartbeats 4000000 in
set_option maxRecDepth 100000 in
theorem C_X7_alter {C W : aF} {o n : Nat} {RS SD XS YS OR : aF} {shn : Int32} {T1 : tT} {P1 : tP} {Od : tO} {T2 : tT} {P2 : tP} {h w v : Int32} {d : aF} {nA nH nO : Nat} (ho : o < 5) (hn : n ≤ 5) (h1 : q_hint C h) (h2 : ¬ w < 0) (h3 : w < 8) (h4 : ¬ v < v_lv w) (h5 : v ≤ v_hv C w) (h6 : ¬ (w = 0 ∨ w = 3)) (B : bC (sH C h w v) d nA nH nO) : ∃ (RS' SD' XS' YS' OR' : aF) (T1' : tT) (P1' : tP), sR d nH RS' SD' XS' YS' (p_all d nA nH nO).1 (p_all d nA nH nO).2.1 ∧ mCt k_X7_alter [.ref 0, .int h, .int w, .int v] (cH C (W, nI o, nI n) (RS, SD, XS, YS, OR, shn) T1 P1 Od T2 P2) (some (.int (gH C h w))) (cH (sH C h w v) (kH W C o n) (RS', SD', XS', YS', OR', (p_all d nA nH nO).2.2) (T1') (P1') Od T2 P2) := by
  obtain ⟨R1, R2, R3, R4, R5, R6, R7, hz, hj⟩ := C_X4_arrange (Hs := kH W C o n) (Od := Od) (T2 := T2) (P2 := P2) (RS := RS) (SD := SD) (XS := XS) (YS := YS) (OR := OR) (shn := shn) (T1 := T1) (P1 := P1) B
  refine ⟨R1, R2, R3, R4, R5, R6, R7, hz, ?_⟩
  refine mCt_intro (plainFor_of_name rfl) (Nat.le_of_ble_eq_true rfl) (m_all rfl) (ls := [_, _, _, _, _]) rfl ?_
  refine mJ_aload_n dX7_alter_0 rfl ?_
  refine mJ_iload_n dX7_alter_1 rfl ?_
  refine mJ_cV1i dX7_alter_2 e_X7_isHint n_X7_140 ⟨Nat.le_of_ble_eq_true rfl, Nat.le_of_ble_eq_true rfl⟩ rfl rfl (Nat.le_of_ble_eq_true rfl) (C_X7_isHint) ?_
  refine mJ_top (b2i_t h1) ?_
  refine mJ_if_eq 18 dX7_alter_5 rfl (fun c => absurd c (by decide)) (fun _ => ?_)
  refine mJ_iload_n dX7_alter_8 rfl ?_
  refine mJ_if_lt 18 dX7_alter_9 rfl (fun c_9 => False.elim (by exact h2 c_9)) (fun c_9 => ?_)
  refine mJ_iload_n dX7_alter_12 rfl ?_
  refine mJ_bipush (v := 8) dX7_alter_13 rfl ?_
  refine mJ_icmp_lt 22 dX7_alter_15 rfl (fun c_15 => ?_) (fun c_15 => False.elim (by exact c_15 h3))
  refine mJ_iload_n dX7_alter_22 rfl ?_
  refine mJ_iload_n dX7_alter_23 rfl ?_
  refine mJ_cS1i dX7_alter_24 e_X7_lowestValue n_X7_143 ⟨Nat.le_of_ble_eq_true rfl, Nat.le_of_ble_eq_true rfl⟩ (Nat.le_of_ble_eq_true rfl) (C_X7_lowestValue) ?_
  refine mJ_icmp_lt 39 dX7_alter_27 rfl (fun c_27 => False.elim (by exact h4 c_27)) (fun c_27 => ?_)
  refine mJ_iload_n dX7_alter_30 rfl ?_
  refine mJ_aload_n dX7_alter_31 rfl ?_
  refine mJ_iload_n dX7_alter_32 rfl ?_
  refine mJ_cV1i dX7_alter_33 e_X7_highestValue n_X7_134 ⟨Nat.le_of_ble_eq_true rfl, Nat.le_of_ble_eq_true rfl⟩ rfl rfl (Nat.le_of_ble_eq_true rfl) (C_X7_highestValue) ?_
  refine mJ_icmp_le 43 dX7_alter_36 rfl (fun c_36 => ?_) (fun c_36 => False.elim (by exact c_36 h5))
  refine mJ_aload_n dX7_alter_43 rfl ?_
  refine mJ_get dX7_alter_44 f_X7_12 rfl rfl ?_
  refine mJ_iload_n dX7_alter_47 rfl ?_
  refine mJ_iload_n dX7_alter_48 rfl ?_
  refine mJ_cV2i dX7_alter_49 e_X5_hintValue n_X7_146 ⟨Nat.le_of_ble_eq_true rfl, Nat.le_of_ble_eq_true rfl⟩ rfl rfl (Nat.le_of_ble_eq_true rfl) (C_X5_hintValue) ?_
  refine mJ_istore dX7_alter_52 (Nat.le_of_ble_eq_true rfl) (ls2 := [_, _, _, _, _]) rfl ?_
  refine mJ_aload_n dX7_alter_54 rfl ?_
  refine mJ_get dX7_alter_55 f_X7_19 rfl rfl ?_
  refine mJ_aload_n dX7_alter_58 rfl ?_
  refine mJ_get dX7_alter_59 f_X7_12 rfl rfl ?_
  refine mJ_cV1v dX7_alter_62 e_X0_keep n_X7_55 ⟨Nat.le_of_ble_eq_true rfl, Nat.le_of_ble_eq_true rfl⟩ rfl rfl (Nat.le_of_ble_eq_true rfl) (C_X0_keep ho hn) ?_
  refine mJ_aload_n dX7_alter_65 rfl ?_
  refine mJ_get dX7_alter_66 f_X7_12 rfl rfl ?_
  refine mJ_iload_n dX7_alter_69 rfl ?_
  refine mJ_iload_n dX7_alter_70 rfl ?_
  refine mJ_iload_n dX7_alter_71 rfl ?_
  refine mJ_cV3v dX7_alter_72 e_X5_putHintValue n_X7_137 ⟨Nat.le_of_ble_eq_true rfl, Nat.le_of_ble_eq_true rfl⟩ rfl rfl (Nat.le_of_ble_eq_true rfl) (C_X5_putHintValue) ?_
  refine mJ_iload_n dX7_alter_75 rfl ?_
  refine mJ_if_eq 84 dX7_alter_76 rfl (fun c_76 => False.elim (by exact h6 (Or.inl c_76))) (fun c_76 => ?_)
  refine mJ_iload_n dX7_alter_79 rfl ?_
  refine mJ_iconst (v := 3) dX7_alter_80 rfl ?_
  refine mJ_icmp_ne 95 dX7_alter_81 rfl (fun c_81 => ?_) (fun c_81 => False.elim (by exact h6 (Or.inr c_81)))
  refine mJ_aload_n dX7_alter_95 rfl ?_
  refine mJ_get dX7_alter_96 f_X7_26 rfl rfl ?_
  refine mJ_aload_n dX7_alter_99 rfl ?_
  refine mJ_get dX7_alter_100 f_X7_12 rfl rfl ?_
  refine mJ_cV1i dX7_alter_103 e_X4_arrange n_X7_63 ⟨Nat.le_of_ble_eq_true rfl, Nat.le_of_ble_eq_true rfl⟩ rfl rfl (Nat.le_of_ble_eq_true rfl) (hj) ?_
  refine mJ_pop dX7_alter_106 rfl ?_
  refine mJ_iload dX7_alter_107 rfl ?_
  exact mJ_iret dX7_alter_109 rfl (rfl) (rfl)
set_option maxHeartbeats 4000000 in
set_option maxRecDepth 100000 in
theorem C_X7_open_bad {C W : aF} {o n : Nat} {RS SD XS YS OR : aF} {shn : Int32} {T1 : tT} {P1 : tP} {Od : tO} {T2 : tT} {P2 : tP} {h : Int32} (hb : ¬ (q_hint C h)) : mCt k_X7_open [.ref 0, .int h] (cH C (W, nI o, nI n) (RS, SD, XS, YS, OR, shn) T1 P1 Od T2 P2) (some (.int (-10001))) (cH C (W, nI o, nI n) (RS, SD, XS, YS, OR, shn) T1 P1 Od T2 P2) := by
  refine mCt_intro (plainFor_of_name rfl) (Nat.le_of_ble_eq_true rfl) (m_all rfl) (ls := [_, _]) rfl ?_
  refine mJ_aload_n dX7_open_0 rfl ?_
  refine mJ_iload_n dX7_open_1 rfl ?_
  refine mJ_cV1i dX7_open_2 e_X7_isHint n_X7_140 ⟨Nat.le_of_ble_eq_true rfl, Nat.le_of_ble_eq_true rfl⟩ rfl rfl (Nat.le_of_ble_eq_true rfl) (C_X7_isHint) ?_
  refine mJ_b2i (fun b_2 => ?_) (fun b_2 => ?_)
  · exact False.elim (by exact hb b_2)
  · refine mJ_if_ne 12 dX7_open_5 rfl (fun c => absurd c (by decide)) (fun _ => ?_)
    refine mJ_sipush (v := (-10001)) dX7_open_8 rfl ?_
    exact mJ_iret dX7_open_11 rfl (rfl) (rfl)
set_option maxHeartbeats 4000000 in
set_option maxRecDepth 100000 in
theorem C_X7_open_np {C W : aF} {o n : Nat} {RS SD XS YS OR : aF} {shn : Int32} {T1 : tT} {P1 : tP} {Od : tO} {T2 : tT} {P2 : tP} {h : Int32} (h1 : q_hint C h) (h2 : q_open C h) : mCt k_X7_open [.ref 0, .int h] (cH C (W, nI o, nI n) (RS, SD, XS, YS, OR, shn) T1 P1 Od T2 P2) (some (.int (-10002))) (cH C (W, nI o, nI n) (RS, SD, XS, YS, OR, shn) T1 P1 Od T2 P2) := by
  refine mCt_intro (plainFor_of_name rfl) (Nat.le_of_ble_eq_true rfl) (m_all rfl) (ls := [_, _]) rfl ?_
  refine mJ_aload_n dX7_open_0 rfl ?_
  refine mJ_iload_n dX7_open_1 rfl ?_
  refine mJ_cV1i dX7_open_2 e_X7_isHint n_X7_140 ⟨Nat.le_of_ble_eq_true rfl, Nat.le_of_ble_eq_true rfl⟩ rfl rfl (Nat.le_of_ble_eq_true rfl) (C_X7_isHint) ?_
  refine mJ_top (b2i_t h1) ?_
  refine mJ_if_ne 12 dX7_open_5 rfl (fun _ => ?_) (fun c => absurd c (by decide))
  refine mJ_aload_n dX7_open_12 rfl ?_
  refine mJ_get dX7_open_13 f_X7_12 rfl rfl ?_
  refine mJ_iload_n dX7_open_16 rfl ?_
  refine mJ_cV1i dX7_open_17 e_X5_isOpen n_X7_149 ⟨Nat.le_of_ble_eq_true rfl, Nat.le_of_ble_eq_true rfl⟩ rfl rfl (Nat.le_of_ble_eq_true rfl) (C_X5_isOpen) ?_
  refine mJ_top (b2i_t h2) ?_
  refine mJ_if_eq 27 dX7_open_20 rfl (fun c => absurd c (by decide)) (fun _ => ?_)
  refine mJ_sipush (v := (-10002)) dX7_open_23 rfl ?_
  exact mJ_iret dX7_open_26 rfl (rfl) (rfl)
set_option maxHeartbeats 4000000 in
set_option maxRecDepth 100000 in
theorem C_X7_open {C W : aF} {o n : Nat} {RS SD XS YS OR : aF} {shn : Int32} {T1 : tT} {P1 : tP} {Od : tO} {T2 : tT} {P2 : tP} {k : Nat} {d : aF} {nA nH nO : Nat} (ho : o < 5) (hn : n ≤ 5) (hk : k < nH) (hl : nH ≤ 12) (h1 : q_hint C (nI k)) (h2 : ¬ q_open C (nI k)) (B : bC (sH (sP C 6 (gG C 6 + 1)) (nI k) 8 (gG C 6 + 1)) d nA nH nO) : ∃ (RS' SD' XS' YS' OR' : aF) (T1' : tT) (P1' : tP), sR d nH RS' SD' XS' YS' (p_all d nA nH nO).1 (p_all d nA nH nO).2.1 ∧ mCt k_X7_open [.ref 0, .int (nI k)] (cH C (W, nI o, nI n) (RS, SD, XS, YS, OR, shn) T1 P1 Od T2 P2) (some (.int ((p_all d nA nH nO).1 k))) (cH (sH (sP C 6 (gG C 6 + 1)) (nI k) 8 (gG C 6 + 1)) (kH W C o n) (RS', SD', XS', YS', OR', (p_all d nA nH nO).2.2) (T1') (P1') Od T2 P2) := by
  obtain ⟨R1, R2, R3, R4, R5, R6, R7, hz, hj⟩ := C_X4_arrange (Hs := kH W C o n) (Od := Od) (T2 := T2) (P2 := P2) (RS := RS) (SD := SD) (XS := XS) (YS := YS) (OR := OR) (shn := shn) (T1 := T1) (P1 := P1) B
  refine ⟨R1, R2, R3, R4, R5, R6, R7, hz, ?_⟩
  refine mCt_intro (plainFor_of_name rfl) (Nat.le_of_ble_eq_true rfl) (m_all rfl) (ls := [_, _]) rfl ?_
  refine mJ_aload_n dX7_open_0 rfl ?_
  refine mJ_iload_n dX7_open_1 rfl ?_
  refine mJ_cV1i dX7_open_2 e_X7_isHint n_X7_140 ⟨Nat.le_of_ble_eq_true rfl, Nat.le_of_ble_eq_true rfl⟩ rfl rfl (Nat.le_of_ble_eq_true rfl) (C_X7_isHint) ?_
  refine mJ_top (b2i_t h1) ?_
  refine mJ_if_ne 12 dX7_open_5 rfl (fun _ => ?_) (fun c => absurd c (by decide))
  refine mJ_aload_n dX7_open_12 rfl ?_
  refine mJ_get dX7_open_13 f_X7_12 rfl rfl ?_
  refine mJ_iload_n dX7_open_16 rfl ?_
  refine mJ_cV1i dX7_open_17 e_X5_isOpen n_X7_149 ⟨Nat.le_of_ble_eq_true rfl, Nat.le_of_ble_eq_true rfl⟩ rfl rfl (Nat.le_of_ble_eq_true rfl) (C_X5_isOpen) ?_
  refine mJ_top (b2i_f h2) ?_
  refine mJ_if_eq 27 dX7_open_20 rfl (fun _ => ?_) (fun c => absurd c (by decide))
  refine mJ_aload_n dX7_open_27 rfl ?_
  refine mJ_get dX7_open_28 f_X7_19 rfl rfl ?_
  refine mJ_aload_n dX7_open_31 rfl ?_
  refine mJ_get dX7_open_32 f_X7_12 rfl rfl ?_
  refine mJ_cV1v dX7_open_35 e_X0_keep n_X7_55 ⟨Nat.le_of_ble_eq_true rfl, Nat.le_of_ble_eq_true rfl⟩ rfl rfl (Nat.le_of_ble_eq_true rfl) (C_X0_keep ho hn) ?_
  refine mJ_aload_n dX7_open_38 rfl ?_
  refine mJ_iload_n dX7_open_39 rfl ?_
  refine mJ_cV1v dX7_open_40 e_X7_openHint n_X7_152 ⟨Nat.le_of_ble_eq_true rfl, Nat.le_of_ble_eq_true rfl⟩ rfl rfl (Nat.le_of_ble_eq_true rfl) (C_X7_openHint) ?_
  refine mJ_aload_n dX7_open_43 rfl ?_
  refine mJ_get dX7_open_44 f_X7_26 rfl rfl ?_
  refine mJ_aload_n dX7_open_47 rfl ?_
  refine mJ_get dX7_open_48 f_X7_12 rfl rfl ?_
  refine mJ_cV1i dX7_open_51 e_X4_arrange n_X7_63 ⟨Nat.le_of_ble_eq_true rfl, Nat.le_of_ble_eq_true rfl⟩ rfl rfl (Nat.le_of_ble_eq_true rfl) (hj) ?_
  refine mJ_pop dX7_open_54 rfl ?_
  refine mJ_aload_n dX7_open_55 rfl ?_
  refine mJ_get dX7_open_56 f_X7_26 rfl rfl ?_
  refine mJ_get dX7_open_59 f_X7_156 rfl rfl ?_
  refine mJ_iload_n dX7_open_62 rfl ?_
  refine mJ_cV1i dX7_open_63 e_X3_get n_X7_160 ⟨Nat.le_of_ble_eq_true rfl, Nat.le_of_ble_eq_true rfl⟩ rfl rfl (Nat.le_of_ble_eq_true rfl) (C_X3_get rfl rfl (Nat.le_of_ble_eq_true rfl)) ?_
  refine mJ_top ((rg_in _ (show k < 12 by omega) (by decide)).trans (hz k hk).1) ?_
  exact mJ_iret dX7_open_66 rfl (rfl) (rfl)
set_option maxHeartbeats 4000000 in
set_option maxRecDepth 100000 in
theorem C_X7_close_bad {C W : aF} {o n : Nat} {RS SD XS YS OR : aF} {shn : Int32} {T1 : tT} {P1 : tP} {Od : tO} {T2 : tT} {P2 : tP} {h : Int32} (hb : ¬ (q_hint C h)) : mCt k_X7_close [.ref 0, .int h] (cH C (W, nI o, nI n) (RS, SD, XS, YS, OR, shn) T1 P1 Od T2 P2) (some (.int (-10001))) (cH C (W, nI o, nI n) (RS, SD, XS, YS, OR, shn) T1 P1 Od T2 P2) := by
  refine mCt_intro (plainFor_of_name rfl) (Nat.le_of_ble_eq_true rfl) (m_all rfl) (ls := [_, _]) rfl ?_
  refine mJ_aload_n dX7_close_0 rfl ?_
  refine mJ_iload_n dX7_close_1 rfl ?_
  refine mJ_cV1i dX7_close_2 e_X7_isHint n_X7_140 ⟨Nat.le_of_ble_eq_true rfl, Nat.le_of_ble_eq_true rfl⟩ rfl rfl (Nat.le_of_ble_eq_true rfl) (C_X7_isHint) ?_
  refine mJ_b2i (fun b_2 => ?_) (fun b_2 => ?_)
  · exact False.elim (by exact hb b_2)
  · refine mJ_if_ne 12 dX7_close_5 rfl (fun c => absurd c (by decide)) (fun _ => ?_)
    refine mJ_sipush (v := (-10001)) dX7_close_8 rfl ?_
    exact mJ_iret dX7_close_11 rfl (rfl) (rfl)
set_option maxHeartbeats 4000000 in
set_option maxRecDepth 100000 in
theorem C_X7_close_np {C W : aF} {o n : Nat} {RS SD XS YS OR : aF} {shn : Int32} {T1 : tT} {P1 : tP} {Od : tO} {T2 : tT} {P2 : tP} {h : Int32} (h1 : q_hint C h) (h2 : ¬ q_open C h) : mCt k_X7_close [.ref 0, .int h] (cH C (W, nI o, nI n) (RS, SD, XS, YS, OR, shn) T1 P1 Od T2 P2) (some (.int (-10002))) (cH C (W, nI o, nI n) (RS, SD, XS, YS, OR, shn) T1 P1 Od T2 P2) := by
  refine mCt_intro (plainFor_of_name rfl) (Nat.le_of_ble_eq_true rfl) (m_all rfl) (ls := [_, _]) rfl ?_
  refine mJ_aload_n dX7_close_0 rfl ?_
  refine mJ_iload_n dX7_close_1 rfl ?_
  refine mJ_cV1i dX7_close_2 e_X7_isHint n_X7_140 ⟨Nat.le_of_ble_eq_true rfl, Nat.le_of_ble_eq_true rfl⟩ rfl rfl (Nat.le_of_ble_eq_true rfl) (C_X7_isHint) ?_
  refine mJ_top (b2i_t h1) ?_
  refine mJ_if_ne 12 dX7_close_5 rfl (fun _ => ?_) (fun c => absurd c (by decide))
  refine mJ_aload_n dX7_close_12 rfl ?_
  refine mJ_get dX7_close_13 f_X7_12 rfl rfl ?_
  refine mJ_iload_n dX7_close_16 rfl ?_
  refine mJ_cV1i dX7_close_17 e_X5_isOpen n_X7_149 ⟨Nat.le_of_ble_eq_true rfl, Nat.le_of_ble_eq_true rfl⟩ rfl rfl (Nat.le_of_ble_eq_true rfl) (C_X5_isOpen) ?_
  refine mJ_top (b2i_f h2) ?_
  refine mJ_if_ne 27 dX7_close_20 rfl (fun c => absurd c (by decide)) (fun _ => ?_)
  refine mJ_sipush (v := (-10002)) dX7_close_23 rfl ?_
  exact mJ_iret dX7_close_26 rfl (rfl) (rfl)
set_option maxHeartbeats 4000000 in
set_option maxRecDepth 100000 in
theorem C_X7_close {C W : aF} {o n : Nat} {RS SD XS YS OR : aF} {shn : Int32} {T1 : tT} {P1 : tP} {Od : tO} {T2 : tT} {P2 : tP} {h : Int32} {d : aF} {nA nH nO : Nat} (ho : o < 5) (hn : n ≤ 5) (h1 : q_hint C h) (h2 : q_open C h) (B : bC (sH (sH C h 8 0) h 9 (-1)) d nA nH nO) : ∃ (RS' SD' XS' YS' OR' : aF) (T1' : tT) (P1' : tP), sR d nH RS' SD' XS' YS' (p_all d nA nH nO).1 (p_all d nA nH nO).2.1 ∧ mCt k_X7_close [.ref 0, .int h] (cH C (W, nI o, nI n) (RS, SD, XS, YS, OR, shn) T1 P1 Od T2 P2) (some (.int (p_all d nA nH nO).2.2)) (cH (sH (sH C h 8 0) h 9 (-1)) (kH W C o n) (RS', SD', XS', YS', OR', (p_all d nA nH nO).2.2) (T1') (P1') Od T2 P2) := by
  obtain ⟨R1, R2, R3, R4, R5, R6, R7, hz, hj⟩ := C_X4_arrange (Hs := kH W C o n) (Od := Od) (T2 := T2) (P2 := P2) (RS := RS) (SD := SD) (XS := XS) (YS := YS) (OR := OR) (shn := shn) (T1 := T1) (P1 := P1) B
  refine ⟨R1, R2, R3, R4, R5, R6, R7, hz, ?_⟩
  refine mCt_intro (plainFor_of_name rfl) (Nat.le_of_ble_eq_true rfl) (m_all rfl) (ls := [_, _]) rfl ?_
  refine mJ_aload_n dX7_close_0 rfl ?_
  refine mJ_iload_n dX7_close_1 rfl ?_
  refine mJ_cV1i dX7_close_2 e_X7_isHint n_X7_140 ⟨Nat.le_of_ble_eq_true rfl, Nat.le_of_ble_eq_true rfl⟩ rfl rfl (Nat.le_of_ble_eq_true rfl) (C_X7_isHint) ?_
  refine mJ_top (b2i_t h1) ?_
  refine mJ_if_ne 12 dX7_close_5 rfl (fun _ => ?_) (fun c => absurd c (by decide))
  refine mJ_aload_n dX7_close_12 rfl ?_
  refine mJ_get dX7_close_13 f_X7_12 rfl rfl ?_
  refine mJ_iload_n dX7_close_16 rfl ?_
  refine mJ_cV1i dX7_close_17 e_X5_isOpen n_X7_149 ⟨Nat.le_of_ble_eq_true rfl, Nat.le_of_ble_eq_true rfl⟩ rfl rfl (Nat.le_of_ble_eq_true rfl) (C_X5_isOpen) ?_
  refine mJ_top (b2i_t h2) ?_
  refine mJ_if_ne 27 dX7_close_20 rfl (fun _ => ?_) (fun c => absurd c (by decide))
  refine mJ_aload_n dX7_close_27 rfl ?_
  refine mJ_get dX7_close_28 f_X7_19 rfl rfl ?_
  refine mJ_aload_n dX7_close_31 rfl ?_
  refine mJ_get dX7_close_32 f_X7_12 rfl rfl ?_
  refine mJ_cV1v dX7_close_35 e_X0_keep n_X7_55 ⟨Nat.le_of_ble_eq_true rfl, Nat.le_of_ble_eq_true rfl⟩ rfl rfl (Nat.le_of_ble_eq_true rfl) (C_X0_keep ho hn) ?_
  refine mJ_aload_n dX7_close_38 rfl ?_
  refine mJ_iload_n dX7_close_39 rfl ?_
  refine mJ_cV1v dX7_close_40 e_X7_closeHint n_X7_163 ⟨Nat.le_of_ble_eq_true rfl, Nat.le_of_ble_eq_true rfl⟩ rfl rfl (Nat.le_of_ble_eq_true rfl) (C_X7_closeHint) ?_
  refine mJ_aload_n dX7_close_43 rfl ?_
  refine mJ_get dX7_close_44 f_X7_26 rfl rfl ?_
  refine mJ_aload_n dX7_close_47 rfl ?_
  refine mJ_get dX7_close_48 f_X7_12 rfl rfl ?_
  refine mJ_cV1i dX7_close_51 e_X4_arrange n_X7_63 ⟨Nat.le_of_ble_eq_true rfl, Nat.le_of_ble_eq_true rfl⟩ rfl rfl (Nat.le_of_ble_eq_true rfl) (hj) ?_
  exact mJ_iret dX7_close_54 rfl (rfl) (rfl)
set_option maxHeartbeats 4000000 in
set_option maxRecDepth 100000 in
theorem C_X7_settle {C W : aF} {o n : Nat} {RS SD XS YS OR : aF} {shn : Int32} {T1 : tT} {P1 : tP} {Od : tO} {T2 : tT} {P2 : tP} {d : aF} {nA nH nO : Nat} (ho : o < 5) (hn : n ≤ 5) (h5 : ∀ k, k ≤ nH → gG (rmC C RS SD k) 5 = nI nH) (hl : nH ≤ 12) (B : bC (rmC C RS SD nH) d nA nH nO) : ∃ (RS' SD' XS' YS' OR' : aF) (T1' : tT) (P1' : tP), sR d nH RS' SD' XS' YS' (p_all d nA nH nO).1 (p_all d nA nH nO).2.1 ∧ mCt k_X7_settle [.ref 0] (cH C (W, nI o, nI n) (RS, SD, XS, YS, OR, shn) T1 P1 Od T2 P2) (some (.int (cP (rmP C RS SD) nH))) (cH (rmC C RS SD nH) (kH W C o n) (RS', SD', XS', YS', OR', (p_all d nA nH nO).2.2) (T1') (P1') Od T2 P2) := by
  obtain ⟨R1, R2, R3, R4, R5, R6, R7, hz, hj⟩ := C_X4_arrange (Hs := kH W C o n) (Od := Od) (T2 := T2) (P2 := P2) (RS := RS) (SD := SD) (XS := XS) (YS := YS) (OR := OR) (shn := shn) (T1 := T1) (P1 := P1) B
  refine ⟨R1, R2, R3, R4, R5, R6, R7, hz, ?_⟩
  refine mCt_intro (plainFor_of_name rfl) (Nat.le_of_ble_eq_true rfl) (m_all rfl) (ls := [_, _]) rfl ?_
  refine mJ_aload_n dX7_settle_0 rfl ?_
  refine mJ_get dX7_settle_1 f_X7_19 rfl rfl ?_
  refine mJ_aload_n dX7_settle_4 rfl ?_
  refine mJ_get dX7_settle_5 f_X7_12 rfl rfl ?_
  refine mJ_cV1v dX7_settle_8 e_X0_keep n_X7_55 ⟨Nat.le_of_ble_eq_true rfl, Nat.le_of_ble_eq_true rfl⟩ rfl rfl (Nat.le_of_ble_eq_true rfl) (C_X0_keep ho hn) ?_
  refine mJ_aload_n dX7_settle_11 rfl ?_
  refine mJ_cV0i dX7_settle_12 e_X7_rememberSides n_X7_166 ⟨Nat.le_of_ble_eq_true rfl, Nat.le_of_ble_eq_true rfl⟩ rfl rfl (Nat.le_of_ble_eq_true rfl) (C_X7_rememberSides h5 hl) ?_
  refine mJ_istore_n dX7_settle_15 (Nat.le_of_ble_eq_true rfl) (ls2 := [_, _]) rfl ?_
  refine mJ_aload_n dX7_settle_16 rfl ?_
  refine mJ_get dX7_settle_17 f_X7_26 rfl rfl ?_
  refine mJ_aload_n dX7_settle_20 rfl ?_
  refine mJ_get dX7_settle_21 f_X7_12 rfl rfl ?_
  refine mJ_cV1i dX7_settle_24 e_X4_arrange n_X7_63 ⟨Nat.le_of_ble_eq_true rfl, Nat.le_of_ble_eq_true rfl⟩ rfl rfl (Nat.le_of_ble_eq_true rfl) (hj) ?_
  refine mJ_pop dX7_settle_27 rfl ?_
  refine mJ_iload_n dX7_settle_28 rfl ?_
  exact mJ_iret dX7_settle_29 rfl (rfl) (rfl)
set_option maxHeartbeats 4000000 in
set_option maxRecDepth 100000 in
theorem C_X7_undo_np {C W : aF} {o : Nat} {RS SD XS YS OR : aF} {shn : Int32} {T1 : tT} {P1 : tP} {Od : tO} {T2 : tT} {P2 : tP} : mCt k_X7_undo [.ref 0] (cH C (W, nI o, 0) (RS, SD, XS, YS, OR, shn) T1 P1 Od T2 P2) (some (.int (-10002))) (cH C (W, nI o, 0) (RS, SD, XS, YS, OR, shn) T1 P1 Od T2 P2) := by
  refine mCt_intro (plainFor_of_name rfl) (Nat.le_of_ble_eq_true rfl) (m_all rfl) (ls := [_]) rfl ?_
  refine mJ_aload_n dX7_undo_0 rfl ?_
  refine mJ_get dX7_undo_1 f_X7_19 rfl rfl ?_
  refine mJ_get_4_2 dX7_undo_4 f_X7_122 ?_
  refine mJ_if_ne 14 dX7_undo_7 rfl (fun c_7 => False.elim (by exact c_7 rfl)) (fun c_7 => ?_)
  refine mJ_sipush (v := (-10002)) dX7_undo_10 rfl ?_
  exact mJ_iret dX7_undo_13 rfl (rfl) (rfl)
theorem nI_s0 {n : Nat} (h : n < 1000) : ¬ nI (n + 1) = 0 := fun e => by
  have := nI_ge (a := 0) (b := n + 1) (by omega) (by omega)
  exact this (by rw [e]; exact Int32.le_refl _)
set_option maxHeartbeats 4000000 in
set_option maxRecDepth 100000 in
theorem C_X7_undo {C W : aF} {o n : Nat} {RS SD XS YS OR : aF} {shn : Int32} {T1 : tT} {P1 : tP} {Od : tO} {T2 : tT} {P2 : tP} {d : aF} {nA nH nO : Nat} (ho : o < 5) (hn : n < 5) (B : bC (wC C W ((o + n) % 5 * 172) 172) d nA nH nO) : ∃ (RS' SD' XS' YS' OR' : aF) (T1' : tT) (P1' : tP), sR d nH RS' SD' XS' YS' (p_all d nA nH nO).1 (p_all d nA nH nO).2.1 ∧ mCt k_X7_undo [.ref 0] (cH C (W, nI o, nI (n + 1)) (RS, SD, XS, YS, OR, shn) T1 P1 Od T2 P2) (some (.int (nI n))) (cH (wC C W ((o + n) % 5 * 172) 172) (W, nI o, nI n) (RS', SD', XS', YS', OR', (p_all d nA nH nO).2.2) (T1') (P1') Od T2 P2) := by
  obtain ⟨R1, R2, R3, R4, R5, R6, R7, hz, hj⟩ := C_X4_arrange (Hs := (W, nI o, nI n)) (Od := Od) (T2 := T2) (P2 := P2) (RS := RS) (SD := SD) (XS := XS) (YS := YS) (OR := OR) (shn := shn) (T1 := T1) (P1 := P1) B
  refine ⟨R1, R2, R3, R4, R5, R6, R7, hz, ?_⟩
  refine mCt_intro (plainFor_of_name rfl) (Nat.le_of_ble_eq_true rfl) (m_all rfl) (ls := [_]) rfl ?_
  refine mJ_aload_n dX7_undo_0 rfl ?_
  refine mJ_get dX7_undo_1 f_X7_19 rfl rfl ?_
  refine mJ_get_4_2 dX7_undo_4 f_X7_122 ?_
  refine mJ_if_ne 14 dX7_undo_7 rfl (fun c_7 => ?_) (fun c_7 => False.elim (by exact nI_s0 (by omega) c_7))
  refine mJ_aload_n dX7_undo_14 rfl ?_
  refine mJ_get dX7_undo_15 f_X7_19 rfl rfl ?_
  refine mJ_aload_n dX7_undo_18 rfl ?_
  refine mJ_get dX7_undo_19 f_X7_12 rfl rfl ?_
  refine mJ_cV1v dX7_undo_22 e_X0_restore n_X7_217 ⟨Nat.le_of_ble_eq_true rfl, Nat.le_of_ble_eq_true rfl⟩ rfl rfl (Nat.le_of_ble_eq_true rfl) (C_X0_restore ho hn) ?_
  refine mJ_aload_n dX7_undo_25 rfl ?_
  refine mJ_get dX7_undo_26 f_X7_26 rfl rfl ?_
  refine mJ_aload_n dX7_undo_29 rfl ?_
  refine mJ_get dX7_undo_30 f_X7_12 rfl rfl ?_
  refine mJ_cV1i dX7_undo_33 e_X4_arrange n_X7_63 ⟨Nat.le_of_ble_eq_true rfl, Nat.le_of_ble_eq_true rfl⟩ rfl rfl (Nat.le_of_ble_eq_true rfl) (hj) ?_
  refine mJ_pop dX7_undo_36 rfl ?_
  refine mJ_aload_n dX7_undo_37 rfl ?_
  refine mJ_get dX7_undo_38 f_X7_19 rfl rfl ?_
  refine mJ_get_4_2 dX7_undo_41 f_X7_122 ?_
  exact mJ_iret dX7_undo_44 rfl (rfl) (rfl)
