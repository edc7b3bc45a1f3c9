/-! THE CLASS: questions -/
set_option maxHeartbeats 4000000 in
set_option maxRecDepth 100000 in
theorem C_X7_anchorOf_bad {C W : aF} {o n : Nat} {RS SD XS YS OR : aF} {shn : Int32} {T1 : tT} {P1 : tP} {Od : tO} {T2 : tT} {P2 : tP} {v w : Int32} (hb : ¬ (q_anchor C v)) : mCt k_X7_anchorOf [.ref 0, .int v, .int w] (cH C (W, nI o, nI n) (RS, SD, XS, YS, OR, shn) T1 P1 Od T2 P2) (some (.int (-10001))) (cH C (W, nI o, nI n) (RS, SD, XS, YS, OR, shn) T1 P1 Od T2 P2) := by
  refine mCt_intro (plainFor_of_name rfl) (Nat.le_of_ble_eq_true rfl) (m_all rfl) (ls := [_, _, _]) rfl ?_
  refine mJ_aload_n dX7_anchorOf_0 rfl ?_
  refine mJ_iload_n dX7_anchorOf_1 rfl ?_
  refine mJ_cV1i dX7_anchorOf_2 e_X7_isAnchor n_X7_88 ⟨Nat.le_of_ble_eq_true rfl, Nat.le_of_ble_eq_true rfl⟩ rfl rfl (Nat.le_of_ble_eq_true rfl) (C_X7_isAnchor) ?_
  refine mJ_b2i (fun b_2 => ?_) (fun b_2 => ?_)
  · exact False.elim (by exact hb b_2)
  · refine mJ_if_ne 12 dX7_anchorOf_5 rfl (fun c => absurd c (by decide)) (fun _ => ?_)
    refine mJ_sipush (v := (-10001)) dX7_anchorOf_8 rfl ?_
    exact mJ_iret dX7_anchorOf_11 rfl (rfl) (rfl)
set_option maxHeartbeats 4000000 in
set_option maxRecDepth 100000 in
theorem C_X7_anchorOf_0 {C W : aF} {o n : Nat} {RS SD XS YS OR : aF} {shn : Int32} {T1 : tT} {P1 : tP} {Od : tO} {T2 : tT} {P2 : tP} {v : Int32} (h1 : q_anchor C v) : mCt k_X7_anchorOf [.ref 0, .int v, .int 0] (cH C (W, nI o, nI n) (RS, SD, XS, YS, OR, shn) T1 P1 Od T2 P2) (some (.int (gA C v 0))) (cH C (W, nI o, nI n) (RS, SD, XS, YS, OR, shn) T1 P1 Od T2 P2) := by
  refine mCt_intro (plainFor_of_name rfl) (Nat.le_of_ble_eq_true rfl) (m_all rfl) (ls := [_, _, _]) rfl ?_
  refine mJ_aload_n dX7_anchorOf_0 rfl ?_
  refine mJ_iload_n dX7_anchorOf_1 rfl ?_
  refine mJ_cV1i dX7_anchorOf_2 e_X7_isAnchor n_X7_88 ⟨Nat.le_of_ble_eq_true rfl, Nat.le_of_ble_eq_true rfl⟩ rfl rfl (Nat.le_of_ble_eq_true rfl) (C_X7_isAnchor) ?_
  refine mJ_top (b2i_t h1) ?_
  refine mJ_if_ne 12 dX7_anchorOf_5 rfl (fun _ => ?_) (fun c => absurd c (by decide))
  refine mJ_iload_n dX7_anchorOf_12 rfl ?_
  refine mJ_tin 56 dX7_anchorOf_13 (by decide) (by decide) rfl rfl ?_
  refine mJ_aload_n dX7_anchorOf_56 rfl ?_
  refine mJ_get dX7_anchorOf_57 f_X7_12 rfl rfl ?_
  refine mJ_iload_n dX7_anchorOf_60 rfl ?_
  refine mJ_iload_n dX7_anchorOf_61 rfl ?_
  refine mJ_cV2i dX7_anchorOf_62 e_X5_anchorValue n_X7_91 ⟨Nat.le_of_ble_eq_true rfl, Nat.le_of_ble_eq_true rfl⟩ rfl rfl (Nat.le_of_ble_eq_true rfl) (C_X5_anchorValue) ?_
  exact mJ_iret dX7_anchorOf_65 rfl (rfl) (rfl)
set_option maxHeartbeats 4000000 in
set_option maxRecDepth 100000 in
theorem C_X7_anchorOf_1 {C W : aF} {o n : Nat} {RS SD XS YS OR : aF} {shn : Int32} {T1 : tT} {P1 : tP} {Od : tO} {T2 : tT} {P2 : tP} {v : Int32} (h1 : q_anchor C v) : mCt k_X7_anchorOf [.ref 0, .int v, .int 1] (cH C (W, nI o, nI n) (RS, SD, XS, YS, OR, shn) T1 P1 Od T2 P2) (some (.int (gA C v 1))) (cH C (W, nI o, nI n) (RS, SD, XS, YS, OR, shn) T1 P1 Od T2 P2) := by
  refine mCt_intro (plainFor_of_name rfl) (Nat.le_of_ble_eq_true rfl) (m_all rfl) (ls := [_, _, _]) rfl ?_
  refine mJ_aload_n dX7_anchorOf_0 rfl ?_
  refine mJ_iload_n dX7_anchorOf_1 rfl ?_
  refine mJ_cV1i dX7_anchorOf_2 e_X7_isAnchor n_X7_88 ⟨Nat.le_of_ble_eq_true rfl, Nat.le_of_ble_eq_true rfl⟩ rfl rfl (Nat.le_of_ble_eq_true rfl) (C_X7_isAnchor) ?_
  refine mJ_top (b2i_t h1) ?_
  refine mJ_if_ne 12 dX7_anchorOf_5 rfl (fun _ => ?_) (fun c => absurd c (by decide))
  refine mJ_iload_n dX7_anchorOf_12 rfl ?_
  refine mJ_tin 56 dX7_anchorOf_13 (by decide) (by decide) rfl rfl ?_
  refine mJ_aload_n dX7_anchorOf_56 rfl ?_
  refine mJ_get dX7_anchorOf_57 f_X7_12 rfl rfl ?_
  refine mJ_iload_n dX7_anchorOf_60 rfl ?_
  refine mJ_iload_n dX7_anchorOf_61 rfl ?_
  refine mJ_cV2i dX7_anchorOf_62 e_X5_anchorValue n_X7_91 ⟨Nat.le_of_ble_eq_true rfl, Nat.le_of_ble_eq_true rfl⟩ rfl rfl (Nat.le_of_ble_eq_true rfl) (C_X5_anchorValue) ?_
  exact mJ_iret dX7_anchorOf_65 rfl (rfl) (rfl)
set_option maxHeartbeats 4000000 in
set_option maxRecDepth 100000 in
theorem C_X7_anchorOf_2 {C W : aF} {o n : Nat} {RS SD XS YS OR : aF} {shn : Int32} {T1 : tT} {P1 : tP} {Od : tO} {T2 : tT} {P2 : tP} {v : Int32} (h1 : q_anchor C v) : mCt k_X7_anchorOf [.ref 0, .int v, .int 2] (cH C (W, nI o, nI n) (RS, SD, XS, YS, OR, shn) T1 P1 Od T2 P2) (some (.int (gA C v 2))) (cH C (W, nI o, nI n) (RS, SD, XS, YS, OR, shn) T1 P1 Od T2 P2) := by
  refine mCt_intro (plainFor_of_name rfl) (Nat.le_of_ble_eq_true rfl) (m_all rfl) (ls := [_, _, _]) rfl ?_
  refine mJ_aload_n dX7_anchorOf_0 rfl ?_
  refine mJ_iload_n dX7_anchorOf_1 rfl ?_
  refine mJ_cV1i dX7_anchorOf_2 e_X7_isAnchor n_X7_88 ⟨Nat.le_of_ble_eq_true rfl, Nat.le_of_ble_eq_true rfl⟩ rfl rfl (Nat.le_of_ble_eq_true rfl) (C_X7_isAnchor) ?_
  refine mJ_top (b2i_t h1) ?_
  refine mJ_if_ne 12 dX7_anchorOf_5 rfl (fun _ => ?_) (fun c => absurd c (by decide))
  refine mJ_iload_n dX7_anchorOf_12 rfl ?_
  refine mJ_tin 56 dX7_anchorOf_13 (by decide) (by decide) rfl rfl ?_
  refine mJ_aload_n dX7_anchorOf_56 rfl ?_
  refine mJ_get dX7_anchorOf_57 f_X7_12 rfl rfl ?_
  refine mJ_iload_n dX7_anchorOf_60 rfl ?_
  refine mJ_iload_n dX7_anchorOf_61 rfl ?_
  refine mJ_cV2i dX7_anchorOf_62 e_X5_anchorValue n_X7_91 ⟨Nat.le_of_ble_eq_true rfl, Nat.le_of_ble_eq_true rfl⟩ rfl rfl (Nat.le_of_ble_eq_true rfl) (C_X5_anchorValue) ?_
  exact mJ_iret dX7_anchorOf_65 rfl (rfl) (rfl)
set_option maxHeartbeats 4000000 in
set_option maxRecDepth 100000 in
theorem C_X7_anchorOf_3 {C W : aF} {o n : Nat} {RS SD XS YS OR : aF} {shn : Int32} {T1 : tT} {P1 : tP} {Od : tO} {T2 : tT} {P2 : tP} {v : Int32} (h1 : q_anchor C v) : mCt k_X7_anchorOf [.ref 0, .int v, .int 3] (cH C (W, nI o, nI n) (RS, SD, XS, YS, OR, shn) T1 P1 Od T2 P2) (some (.int (gA C v 3))) (cH C (W, nI o, nI n) (RS, SD, XS, YS, OR, shn) T1 P1 Od T2 P2) := by
  refine mCt_intro (plainFor_of_name rfl) (Nat.le_of_ble_eq_true rfl) (m_all rfl) (ls := [_, _, _]) rfl ?_
  refine mJ_aload_n dX7_anchorOf_0 rfl ?_
  refine mJ_iload_n dX7_anchorOf_1 rfl ?_
  refine mJ_cV1i dX7_anchorOf_2 e_X7_isAnchor n_X7_88 ⟨Nat.le_of_ble_eq_true rfl, Nat.le_of_ble_eq_true rfl⟩ rfl rfl (Nat.le_of_ble_eq_true rfl) (C_X7_isAnchor) ?_
  refine mJ_top (b2i_t h1) ?_
  refine mJ_if_ne 12 dX7_anchorOf_5 rfl (fun _ => ?_) (fun c => absurd c (by decide))
  refine mJ_iload_n dX7_anchorOf_12 rfl ?_
  refine mJ_tin 56 dX7_anchorOf_13 (by decide) (by decide) rfl rfl ?_
  refine mJ_aload_n dX7_anchorOf_56 rfl ?_
  refine mJ_get dX7_anchorOf_57 f_X7_12 rfl rfl ?_
  refine mJ_iload_n dX7_anchorOf_60 rfl ?_
  refine mJ_iload_n dX7_anchorOf_61 rfl ?_
  refine mJ_cV2i dX7_anchorOf_62 e_X5_anchorValue n_X7_91 ⟨Nat.le_of_ble_eq_true rfl, Nat.le_of_ble_eq_true rfl⟩ rfl rfl (Nat.le_of_ble_eq_true rfl) (C_X5_anchorValue) ?_
  exact mJ_iret dX7_anchorOf_65 rfl (rfl) (rfl)
set_option maxHeartbeats 4000000 in
set_option maxRecDepth 100000 in
theorem C_X7_anchorOf_4 {C W : aF} {o n : Nat} {RS SD XS YS OR : aF} {shn : Int32} {T1 : tT} {P1 : tP} {Od : tO} {T2 : tT} {P2 : tP} {v : Int32} (h1 : q_anchor C v) : mCt k_X7_anchorOf [.ref 0, .int v, .int 4] (cH C (W, nI o, nI n) (RS, SD, XS, YS, OR, shn) T1 P1 Od T2 P2) (some (.int (b2i (q_as C v)))) (cH C (W, nI o, nI n) (RS, SD, XS, YS, OR, shn) T1 P1 Od T2 P2) := by
  refine mCt_intro (plainFor_of_name rfl) (Nat.le_of_ble_eq_true rfl) (m_all rfl) (ls := [_, _, _]) rfl ?_
  refine mJ_aload_n dX7_anchorOf_0 rfl ?_
  refine mJ_iload_n dX7_anchorOf_1 rfl ?_
  refine mJ_cV1i dX7_anchorOf_2 e_X7_isAnchor n_X7_88 ⟨Nat.le_of_ble_eq_true rfl, Nat.le_of_ble_eq_true rfl⟩ rfl rfl (Nat.le_of_ble_eq_true rfl) (C_X7_isAnchor) ?_
  refine mJ_top (b2i_t h1) ?_
  refine mJ_if_ne 12 dX7_anchorOf_5 rfl (fun _ => ?_) (fun c => absurd c (by decide))
  refine mJ_iload_n dX7_anchorOf_12 rfl ?_
  refine mJ_tin 66 dX7_anchorOf_13 (by decide) (by decide) rfl rfl ?_
  refine mJ_aload_n dX7_anchorOf_66 rfl ?_
  refine mJ_get dX7_anchorOf_67 f_X7_12 rfl rfl ?_
  refine mJ_iload_n dX7_anchorOf_70 rfl ?_
  refine mJ_cV1i dX7_anchorOf_71 e_X5_isAnchorInSight n_X7_95 ⟨Nat.le_of_ble_eq_true rfl, Nat.le_of_ble_eq_true rfl⟩ rfl rfl (Nat.le_of_ble_eq_true rfl) (C_X5_isAnchorInSight) ?_
  refine mJ_b2i (fun b_71 => ?_) (fun b_71 => ?_)
  · refine mJ_if_eq 81 dX7_anchorOf_74 rfl (fun c => absurd c (by decide)) (fun _ => ?_)
    refine mJ_iconst (v := 1) dX7_anchorOf_77 rfl ?_
    refine mJ_goto 82 dX7_anchorOf_78 rfl ?_
    exact mJ_iret dX7_anchorOf_82 rfl (z_t b_71) (rfl)
  · refine mJ_if_eq 81 dX7_anchorOf_74 rfl (fun _ => ?_) (fun c => absurd c (by decide))
    refine mJ_iconst (v := 0) dX7_anchorOf_81 rfl ?_
    exact mJ_iret dX7_anchorOf_82 rfl (z_f b_71) (rfl)
set_option maxHeartbeats 4000000 in
set_option maxRecDepth 100000 in
theorem C_X7_anchorOf_5 {C W : aF} {o n : Nat} {RS SD XS YS OR : aF} {shn : Int32} {T1 : tT} {P1 : tP} {Od : tO} {T2 : tT} {P2 : tP} {v : Int32} (h1 : q_anchor C v) {nH : Nat} (h5 : gG C 5 = nI nH) (hl : nH ≤ 12) : mCt k_X7_anchorOf [.ref 0, .int v, .int 5] (cH C (W, nI o, nI n) (RS, SD, XS, YS, OR, shn) T1 P1 Od T2 P2) (some (.int (cP (fun o => gH C (nI o) 0 = v) nH))) (cH C (W, nI o, nI n) (RS, SD, XS, YS, OR, shn) T1 P1 Od T2 P2) := by
  refine mCt_intro (plainFor_of_name rfl) (Nat.le_of_ble_eq_true rfl) (m_all rfl) (ls := [_, _, _]) rfl ?_
  refine mJ_aload_n dX7_anchorOf_0 rfl ?_
  refine mJ_iload_n dX7_anchorOf_1 rfl ?_
  refine mJ_cV1i dX7_anchorOf_2 e_X7_isAnchor n_X7_88 ⟨Nat.le_of_ble_eq_true rfl, Nat.le_of_ble_eq_true rfl⟩ rfl rfl (Nat.le_of_ble_eq_true rfl) (C_X7_isAnchor) ?_
  refine mJ_top (b2i_t h1) ?_
  refine mJ_if_ne 12 dX7_anchorOf_5 rfl (fun _ => ?_) (fun c => absurd c (by decide))
  refine mJ_iload_n dX7_anchorOf_12 rfl ?_
  refine mJ_tin 83 dX7_anchorOf_13 (by decide) (by decide) rfl rfl ?_
  refine mJ_aload_n dX7_anchorOf_83 rfl ?_
  refine mJ_iload_n dX7_anchorOf_84 rfl ?_
  refine mJ_iconst (v := 0) dX7_anchorOf_85 rfl ?_
  refine mJ_cV2i dX7_anchorOf_86 e_X7_countHintsOf n_X7_98 ⟨Nat.le_of_ble_eq_true rfl, Nat.le_of_ble_eq_true rfl⟩ rfl rfl (Nat.le_of_ble_eq_true rfl) (C_X7_countHintsOf_0 h5 hl) ?_
  exact mJ_iret dX7_anchorOf_89 rfl (rfl) (rfl)
set_option maxHeartbeats 4000000 in
set_option maxRecDepth 100000 in
theorem C_X7_anchorOf_6 {C W : aF} {o n : Nat} {RS SD XS YS OR : aF} {shn : Int32} {T1 : tT} {P1 : tP} {Od : tO} {T2 : tT} {P2 : tP} {v : Int32} (h1 : q_anchor C v) {nH : Nat} (h5 : gG C 5 = nI nH) (hl : nH ≤ 12) : mCt k_X7_anchorOf [.ref 0, .int v, .int 6] (cH C (W, nI o, nI n) (RS, SD, XS, YS, OR, shn) T1 P1 Od T2 P2) (some (.int (cP (fun o => RS o = 0 ∧ gH C (nI o) 0 = v) nH))) (cH C (W, nI o, nI n) (RS, SD, XS, YS, OR, shn) T1 P1 Od T2 P2) := by
  refine mCt_intro (plainFor_of_name rfl) (Nat.le_of_ble_eq_true rfl) (m_all rfl) (ls := [_, _, _]) rfl ?_
  refine mJ_aload_n dX7_anchorOf_0 rfl ?_
  refine mJ_iload_n dX7_anchorOf_1 rfl ?_
  refine mJ_cV1i dX7_anchorOf_2 e_X7_isAnchor n_X7_88 ⟨Nat.le_of_ble_eq_true rfl, Nat.le_of_ble_eq_true rfl⟩ rfl rfl (Nat.le_of_ble_eq_true rfl) (C_X7_isAnchor) ?_
  refine mJ_top (b2i_t h1) ?_
  refine mJ_if_ne 12 dX7_anchorOf_5 rfl (fun _ => ?_) (fun c => absurd c (by decide))
  refine mJ_iload_n dX7_anchorOf_12 rfl ?_
  refine mJ_tin 90 dX7_anchorOf_13 (by decide) (by decide) rfl rfl ?_
  refine mJ_aload_n dX7_anchorOf_90 rfl ?_
  refine mJ_iload_n dX7_anchorOf_91 rfl ?_
  refine mJ_iconst (v := 1) dX7_anchorOf_92 rfl ?_
  refine mJ_cV2i dX7_anchorOf_93 e_X7_countHintsOf n_X7_98 ⟨Nat.le_of_ble_eq_true rfl, Nat.le_of_ble_eq_true rfl⟩ rfl rfl (Nat.le_of_ble_eq_true rfl) (C_X7_countHintsOf_1 h5 hl) ?_
  exact mJ_iret dX7_anchorOf_96 rfl (rfl) (rfl)
set_option maxHeartbeats 4000000 in
set_option maxRecDepth 100000 in
theorem C_X7_anchorOf_d {C W : aF} {o n : Nat} {RS SD XS YS OR : aF} {shn : Int32} {T1 : tT} {P1 : tP} {Od : tO} {T2 : tT} {P2 : tP} {v w : Int32} (h1 : q_anchor C v) (hb : ¬ q_rg w 0 6) : mCt k_X7_anchorOf [.ref 0, .int v, .int w] (cH C (W, nI o, nI n) (RS, SD, XS, YS, OR, shn) T1 P1 Od T2 P2) (some (.int (-10001))) (cH C (W, nI o, nI n) (RS, SD, XS, YS, OR, shn) T1 P1 Od T2 P2) := by
  refine mCt_intro (plainFor_of_name rfl) (Nat.le_of_ble_eq_true rfl) (m_all rfl) (ls := [_, _, _]) rfl ?_
  refine mJ_aload_n dX7_anchorOf_0 rfl ?_
  refine mJ_iload_n dX7_anchorOf_1 rfl ?_
  refine mJ_cV1i dX7_anchorOf_2 e_X7_isAnchor n_X7_88 ⟨Nat.le_of_ble_eq_true rfl, Nat.le_of_ble_eq_true rfl⟩ rfl rfl (Nat.le_of_ble_eq_true rfl) (C_X7_isAnchor) ?_
  refine mJ_top (b2i_t h1) ?_
  refine mJ_if_ne 12 dX7_anchorOf_5 rfl (fun _ => ?_) (fun c => absurd c (by decide))
  refine mJ_iload_n dX7_anchorOf_12 rfl ?_
  refine mJ_case 0 (fun s_13_0 => ?_) (fun s_13_0 => ?_)
  · exact False.elim (by exact hb (by rw [s_13_0]; exact ⟨by decide, by decide⟩))
  refine mJ_case 1 (fun s_13_1 => ?_) (fun s_13_1 => ?_)
  · exact False.elim (by exact hb (by rw [s_13_1]; exact ⟨by decide, by decide⟩))
  refine mJ_case 2 (fun s_13_2 => ?_) (fun s_13_2 => ?_)
  · exact False.elim (by exact hb (by rw [s_13_2]; exact ⟨by decide, by decide⟩))
  refine mJ_case 3 (fun s_13_3 => ?_) (fun s_13_3 => ?_)
  · exact False.elim (by exact hb (by rw [s_13_3]; exact ⟨by decide, by decide⟩))
  refine mJ_case 4 (fun s_13_4 => ?_) (fun s_13_4 => ?_)
  · exact False.elim (by exact hb (by rw [s_13_4]; exact ⟨by decide, by decide⟩))
  refine mJ_case 5 (fun s_13_5 => ?_) (fun s_13_5 => ?_)
  · exact False.elim (by exact hb (by rw [s_13_5]; exact ⟨by decide, by decide⟩))
  refine mJ_case 6 (fun s_13_6 => ?_) (fun s_13_6 => ?_)
  · exact False.elim (by exact hb (by rw [s_13_6]; exact ⟨by decide, by decide⟩))
  refine mJ_tout 97 dX7_anchorOf_13 (m_out (fun z z1 z2 z3 => ?_)) rfl ?_
  · rcases (show z = 0 ∨ z = 1 ∨ z = 2 ∨ z = 3 ∨ z = 4 ∨ z = 5 ∨ z = 6 by omega) with rfl | rfl | rfl | rfl | rfl | rfl | rfl
    · exact s_13_0 (Int32.toInt_inj.mp z3)
    · exact s_13_1 (Int32.toInt_inj.mp z3)
    · exact s_13_2 (Int32.toInt_inj.mp z3)
    · exact s_13_3 (Int32.toInt_inj.mp z3)
    · exact s_13_4 (Int32.toInt_inj.mp z3)
    · exact s_13_5 (Int32.toInt_inj.mp z3)
    · exact s_13_6 (Int32.toInt_inj.mp z3)
  · refine mJ_sipush (v := (-10001)) dX7_anchorOf_97 rfl ?_
    exact mJ_iret dX7_anchorOf_100 rfl (rfl) (rfl)
set_option maxHeartbeats 4000000 in
set_option maxRecDepth 100000 in
theorem C_X7_count_0 {C W : aF} {o n : Nat} {RS SD XS YS OR : aF} {shn : Int32} {T1 : tT} {P1 : tP} {Od : tO} {T2 : tT} {P2 : tP} : mCt k_X7_count [.ref 0, .int 0] (cH C (W, nI o, nI n) (RS, SD, XS, YS, OR, shn) T1 P1 Od T2 P2) (some (.int (gG C 0))) (cH C (W, nI o, nI n) (RS, SD, XS, YS, OR, shn) T1 P1 Od T2 P2) := by
  refine mCt_intro (plainFor_of_name rfl) (Nat.le_of_ble_eq_true rfl) (m_all rfl) (ls := [_, _]) rfl ?_
  refine mJ_iload_n dX7_count_0 rfl ?_
  refine mJ_bipush (v := 11) dX7_count_1 rfl ?_
  refine mJ_icmp_lt 24 dX7_count_3 rfl (fun _ => ?_) (fun c => absurd c (by decide))
  refine mJ_iload_n dX7_count_24 rfl ?_
  refine mJ_tin 112 dX7_count_25 (by decide) (by decide) rfl rfl ?_
  refine mJ_aload_n dX7_count_112 rfl ?_
  refine mJ_get dX7_count_113 f_X7_12 rfl rfl ?_
  refine mJ_iconst (v := 0) dX7_count_116 rfl ?_
  refine mJ_cV1i dX7_count_117 e_X5_get n_X7_80 ⟨Nat.le_of_ble_eq_true rfl, Nat.le_of_ble_eq_true rfl⟩ rfl rfl (Nat.le_of_ble_eq_true rfl) (C_X5_get) ?_
  exact mJ_iret dX7_count_120 rfl (rfl) (rfl)
set_option maxHeartbeats 4000000 in
set_option maxRecDepth 100000 in
theorem C_X7_count_1 {C W : aF} {o n : Nat} {RS SD XS YS OR : aF} {shn : Int32} {T1 : tT} {P1 : tP} {Od : tO} {T2 : tT} {P2 : tP} : mCt k_X7_count [.ref 0, .int 1] (cH C (W, nI o, nI n) (RS, SD, XS, YS, OR, shn) T1 P1 Od T2 P2) (some (.int (gG C 1))) (cH C (W, nI o, nI n) (RS, SD, XS, YS, OR, shn) T1 P1 Od T2 P2) := by
  refine mCt_intro (plainFor_of_name rfl) (Nat.le_of_ble_eq_true rfl) (m_all rfl) (ls := [_, _]) rfl ?_
  refine mJ_iload_n dX7_count_0 rfl ?_
  refine mJ_bipush (v := 11) dX7_count_1 rfl ?_
  refine mJ_icmp_lt 24 dX7_count_3 rfl (fun _ => ?_) (fun c => absurd c (by decide))
  refine mJ_iload_n dX7_count_24 rfl ?_
  refine mJ_tin 121 dX7_count_25 (by decide) (by decide) rfl rfl ?_
  refine mJ_aload_n dX7_count_121 rfl ?_
  refine mJ_get dX7_count_122 f_X7_12 rfl rfl ?_
  refine mJ_iconst (v := 1) dX7_count_125 rfl ?_
  refine mJ_cV1i dX7_count_126 e_X5_get n_X7_80 ⟨Nat.le_of_ble_eq_true rfl, Nat.le_of_ble_eq_true rfl⟩ rfl rfl (Nat.le_of_ble_eq_true rfl) (C_X5_get) ?_
  exact mJ_iret dX7_count_129 rfl (rfl) (rfl)
set_option maxHeartbeats 4000000 in
set_option maxRecDepth 100000 in
theorem C_X7_count_2 {C W : aF} {o n : Nat} {RS SD XS YS OR : aF} {shn : Int32} {T1 : tT} {P1 : tP} {Od : tO} {T2 : tT} {P2 : tP} : mCt k_X7_count [.ref 0, .int 2] (cH C (W, nI o, nI n) (RS, SD, XS, YS, OR, shn) T1 P1 Od T2 P2) (some (.int (gG C 2))) (cH C (W, nI o, nI n) (RS, SD, XS, YS, OR, shn) T1 P1 Od T2 P2) := by
  refine mCt_intro (plainFor_of_name rfl) (Nat.le_of_ble_eq_true rfl) (m_all rfl) (ls := [_, _]) rfl ?_
  refine mJ_iload_n dX7_count_0 rfl ?_
  refine mJ_bipush (v := 11) dX7_count_1 rfl ?_
  refine mJ_icmp_lt 24 dX7_count_3 rfl (fun _ => ?_) (fun c => absurd c (by decide))
  refine mJ_iload_n dX7_count_24 rfl ?_
  refine mJ_tin 130 dX7_count_25 (by decide) (by decide) rfl rfl ?_
  refine mJ_aload_n dX7_count_130 rfl ?_
  refine mJ_get dX7_count_131 f_X7_12 rfl rfl ?_
  refine mJ_iconst (v := 2) dX7_count_134 rfl ?_
  refine mJ_cV1i dX7_count_135 e_X5_get n_X7_80 ⟨Nat.le_of_ble_eq_true rfl, Nat.le_of_ble_eq_true rfl⟩ rfl rfl (Nat.le_of_ble_eq_true rfl) (C_X5_get) ?_
  exact mJ_iret dX7_count_138 rfl (rfl) (rfl)
set_option maxHeartbeats 4000000 in
set_option maxRecDepth 100000 in
theorem C_X7_count_3 {C W : aF} {o n : Nat} {RS SD XS YS OR : aF} {shn : Int32} {T1 : tT} {P1 : tP} {Od : tO} {T2 : tT} {P2 : tP} : mCt k_X7_count [.ref 0, .int 3] (cH C (W, nI o, nI n) (RS, SD, XS, YS, OR, shn) T1 P1 Od T2 P2) (some (.int (gG C 3))) (cH C (W, nI o, nI n) (RS, SD, XS, YS, OR, shn) T1 P1 Od T2 P2) := by
  refine mCt_intro (plainFor_of_name rfl) (Nat.le_of_ble_eq_true rfl) (m_all rfl) (ls := [_, _]) rfl ?_
  refine mJ_iload_n dX7_count_0 rfl ?_
  refine mJ_bipush (v := 11) dX7_count_1 rfl ?_
  refine mJ_icmp_lt 24 dX7_count_3 rfl (fun _ => ?_) (fun c => absurd c (by decide))
  refine mJ_iload_n dX7_count_24 rfl ?_
  refine mJ_tin 139 dX7_count_25 (by decide) (by decide) rfl rfl ?_
  refine mJ_aload_n dX7_count_139 rfl ?_
  refine mJ_get dX7_count_140 f_X7_12 rfl rfl ?_
  refine mJ_iconst (v := 3) dX7_count_143 rfl ?_
  refine mJ_cV1i dX7_count_144 e_X5_get n_X7_80 ⟨Nat.le_of_ble_eq_true rfl, Nat.le_of_ble_eq_true rfl⟩ rfl rfl (Nat.le_of_ble_eq_true rfl) (C_X5_get) ?_
  exact mJ_iret dX7_count_147 rfl (rfl) (rfl)
set_option maxHeartbeats 4000000 in
set_option maxRecDepth 100000 in
theorem C_X7_count_4 {C W : aF} {o n : Nat} {RS SD XS YS OR : aF} {shn : Int32} {T1 : tT} {P1 : tP} {Od : tO} {T2 : tT} {P2 : tP} : mCt k_X7_count [.ref 0, .int 4] (cH C (W, nI o, nI n) (RS, SD, XS, YS, OR, shn) T1 P1 Od T2 P2) (some (.int (gG C 4))) (cH C (W, nI o, nI n) (RS, SD, XS, YS, OR, shn) T1 P1 Od T2 P2) := by
  refine mCt_intro (plainFor_of_name rfl) (Nat.le_of_ble_eq_true rfl) (m_all rfl) (ls := [_, _]) rfl ?_
  refine mJ_iload_n dX7_count_0 rfl ?_
  refine mJ_bipush (v := 11) dX7_count_1 rfl ?_
  refine mJ_icmp_lt 24 dX7_count_3 rfl (fun _ => ?_) (fun c => absurd c (by decide))
  refine mJ_iload_n dX7_count_24 rfl ?_
  refine mJ_tin 148 dX7_count_25 (by decide) (by decide) rfl rfl ?_
  refine mJ_aload_n dX7_count_148 rfl ?_
  refine mJ_get dX7_count_149 f_X7_12 rfl rfl ?_
  refine mJ_iconst (v := 4) dX7_count_152 rfl ?_
  refine mJ_cV1i dX7_count_153 e_X5_get n_X7_80 ⟨Nat.le_of_ble_eq_true rfl, Nat.le_of_ble_eq_true rfl⟩ rfl rfl (Nat.le_of_ble_eq_true rfl) (C_X5_get) ?_
  exact mJ_iret dX7_count_156 rfl (rfl) (rfl)
set_option maxHeartbeats 4000000 in
set_option maxRecDepth 100000 in
theorem C_X7_count_5 {C W : aF} {o n : Nat} {RS SD XS YS OR : aF} {shn : Int32} {T1 : tT} {P1 : tP} {Od : tO} {T2 : tT} {P2 : tP} : mCt k_X7_count [.ref 0, .int 5] (cH C (W, nI o, nI n) (RS, SD, XS, YS, OR, shn) T1 P1 Od T2 P2) (some (.int (gG C 5))) (cH C (W, nI o, nI n) (RS, SD, XS, YS, OR, shn) T1 P1 Od T2 P2) := by
  refine mCt_intro (plainFor_of_name rfl) (Nat.le_of_ble_eq_true rfl) (m_all rfl) (ls := [_, _]) rfl ?_
  refine mJ_iload_n dX7_count_0 rfl ?_
  refine mJ_bipush (v := 11) dX7_count_1 rfl ?_
  refine mJ_icmp_lt 24 dX7_count_3 rfl (fun _ => ?_) (fun c => absurd c (by decide))
  refine mJ_iload_n dX7_count_24 rfl ?_
  refine mJ_tin 157 dX7_count_25 (by decide) (by decide) rfl rfl ?_
  refine mJ_aload_n dX7_count_157 rfl ?_
  refine mJ_get dX7_count_158 f_X7_12 rfl rfl ?_
  refine mJ_iconst (v := 5) dX7_count_161 rfl ?_
  refine mJ_cV1i dX7_count_162 e_X5_get n_X7_80 ⟨Nat.le_of_ble_eq_true rfl, Nat.le_of_ble_eq_true rfl⟩ rfl rfl (Nat.le_of_ble_eq_true rfl) (C_X5_get) ?_
  exact mJ_iret dX7_count_165 rfl (rfl) (rfl)
set_option maxHeartbeats 4000000 in
set_option maxRecDepth 100000 in
theorem C_X7_count_6 {C W : aF} {o n : Nat} {RS SD XS YS OR : aF} {shn : Int32} {T1 : tT} {P1 : tP} {Od : tO} {T2 : tT} {P2 : tP} {nH : Nat} (h5 : gG C 5 = nI nH) (hl : nH ≤ 12) : mCt k_X7_count [.ref 0, .int 6] (cH C (W, nI o, nI n) (RS, SD, XS, YS, OR, shn) T1 P1 Od T2 P2) (some (.int (cP (fun o => q_open C (nI o)) nH))) (cH C (W, nI o, nI n) (RS, SD, XS, YS, OR, shn) T1 P1 Od T2 P2) := by
  refine mCt_intro (plainFor_of_name rfl) (Nat.le_of_ble_eq_true rfl) (m_all rfl) (ls := [_, _]) rfl ?_
  refine mJ_iload_n dX7_count_0 rfl ?_
  refine mJ_bipush (v := 11) dX7_count_1 rfl ?_
  refine mJ_icmp_lt 24 dX7_count_3 rfl (fun _ => ?_) (fun c => absurd c (by decide))
  refine mJ_iload_n dX7_count_24 rfl ?_
  refine mJ_tin 166 dX7_count_25 (by decide) (by decide) rfl rfl ?_
  refine mJ_aload_n dX7_count_166 rfl ?_
  refine mJ_cV0i dX7_count_167 e_X7_countOpen n_X7_111 ⟨Nat.le_of_ble_eq_true rfl, Nat.le_of_ble_eq_true rfl⟩ rfl rfl (Nat.le_of_ble_eq_true rfl) (C_X7_countOpen h5 hl) ?_
  exact mJ_iret dX7_count_170 rfl (rfl) (rfl)
set_option maxHeartbeats 4000000 in
set_option maxRecDepth 100000 in
theorem C_X7_count_7 {C W : aF} {o n : Nat} {RS SD XS YS OR : aF} {shn : Int32} {T1 : tT} {P1 : tP} {Od : tO} {T2 : tT} {P2 : tP} : mCt k_X7_count [.ref 0, .int 7] (cH C (W, nI o, nI n) (RS, SD, XS, YS, OR, shn) T1 P1 Od T2 P2) (some (.int (shn))) (cH C (W, nI o, nI n) (RS, SD, XS, YS, OR, shn) T1 P1 Od T2 P2) := by
  refine mCt_intro (plainFor_of_name rfl) (Nat.le_of_ble_eq_true rfl) (m_all rfl) (ls := [_, _]) rfl ?_
  refine mJ_iload_n dX7_count_0 rfl ?_
  refine mJ_bipush (v := 11) dX7_count_1 rfl ?_
  refine mJ_icmp_lt 24 dX7_count_3 rfl (fun _ => ?_) (fun c => absurd c (by decide))
  refine mJ_iload_n dX7_count_24 rfl ?_
  refine mJ_tin 171 dX7_count_25 (by decide) (by decide) rfl rfl ?_
  refine mJ_aload_n dX7_count_171 rfl ?_
  refine mJ_get dX7_count_172 f_X7_26 rfl rfl ?_
  refine mJ_get_7_7 dX7_count_175 f_X7_115 ?_
  exact mJ_iret dX7_count_178 rfl (rfl) (rfl)
set_option maxHeartbeats 4000000 in
set_option maxRecDepth 100000 in
theorem C_X7_count_8 {C W : aF} {o n : Nat} {RS SD XS YS OR : aF} {shn : Int32} {T1 : tT} {P1 : tP} {Od : tO} {T2 : tT} {P2 : tP} {nH : Nat} (h5 : gG C 5 = nI nH) (hl : nH ≤ 12) : mCt k_X7_count [.ref 0, .int 8] (cH C (W, nI o, nI n) (RS, SD, XS, YS, OR, shn) T1 P1 Od T2 P2) (some (.int (cP (fun o => ¬ gH C (nI o) 9 = -1) nH))) (cH C (W, nI o, nI n) (RS, SD, XS, YS, OR, shn) T1 P1 Od T2 P2) := by
  refine mCt_intro (plainFor_of_name rfl) (Nat.le_of_ble_eq_true rfl) (m_all rfl) (ls := [_, _]) rfl ?_
  refine mJ_iload_n dX7_count_0 rfl ?_
  refine mJ_bipush (v := 11) dX7_count_1 rfl ?_
  refine mJ_icmp_lt 24 dX7_count_3 rfl (fun _ => ?_) (fun c => absurd c (by decide))
  refine mJ_iload_n dX7_count_24 rfl ?_
  refine mJ_tin 179 dX7_count_25 (by decide) (by decide) rfl rfl ?_
  refine mJ_aload_n dX7_count_179 rfl ?_
  refine mJ_cV0i dX7_count_180 e_X7_countRemembered n_X7_119 ⟨Nat.le_of_ble_eq_true rfl, Nat.le_of_ble_eq_true rfl⟩ rfl rfl (Nat.le_of_ble_eq_true rfl) (C_X7_countRemembered h5 hl) ?_
  exact mJ_iret dX7_count_183 rfl (rfl) (rfl)
set_option maxHeartbeats 4000000 in
set_option maxRecDepth 100000 in
theorem C_X7_count_9 {C W : aF} {o n : Nat} {RS SD XS YS OR : aF} {shn : Int32} {T1 : tT} {P1 : tP} {Od : tO} {T2 : tT} {P2 : tP} : mCt k_X7_count [.ref 0, .int 9] (cH C (W, nI o, nI n) (RS, SD, XS, YS, OR, shn) T1 P1 Od T2 P2) (some (.int (nI n))) (cH C (W, nI o, nI n) (RS, SD, XS, YS, OR, shn) T1 P1 Od T2 P2) := by
  refine mCt_intro (plainFor_of_name rfl) (Nat.le_of_ble_eq_true rfl) (m_all rfl) (ls := [_, _]) rfl ?_
  refine mJ_iload_n dX7_count_0 rfl ?_
  refine mJ_bipush (v := 11) dX7_count_1 rfl ?_
  refine mJ_icmp_lt 24 dX7_count_3 rfl (fun _ => ?_) (fun c => absurd c (by decide))
  refine mJ_iload_n dX7_count_24 rfl ?_
  refine mJ_tin 184 dX7_count_25 (by decide) (by decide) rfl rfl ?_
  refine mJ_aload_n dX7_count_184 rfl ?_
  refine mJ_get dX7_count_185 f_X7_19 rfl rfl ?_
  refine mJ_get_4_2 dX7_count_188 f_X7_122 ?_
  exact mJ_iret dX7_count_191 rfl (rfl) (rfl)
set_option maxHeartbeats 4000000 in
set_option maxRecDepth 100000 in
theorem C_X7_count_10 {C W : aF} {o n : Nat} {RS SD XS YS OR : aF} {shn : Int32} {T1 : tT} {P1 : tP} {Od : tO} {T2 : tT} {P2 : tP} : mCt k_X7_count [.ref 0, .int 10] (cH C (W, nI o, nI n) (RS, SD, XS, YS, OR, shn) T1 P1 Od T2 P2) (some (.int (Od.2.1))) (cH C (W, nI o, nI n) (RS, SD, XS, YS, OR, shn) T1 P1 Od T2 P2) := by
  refine mCt_intro (plainFor_of_name rfl) (Nat.le_of_ble_eq_true rfl) (m_all rfl) (ls := [_, _]) rfl ?_
  refine mJ_iload_n dX7_count_0 rfl ?_
  refine mJ_bipush (v := 11) dX7_count_1 rfl ?_
  refine mJ_icmp_lt 24 dX7_count_3 rfl (fun _ => ?_) (fun c => absurd c (by decide))
  refine mJ_iload_n dX7_count_24 rfl ?_
  refine mJ_tin 192 dX7_count_25 (by decide) (by decide) rfl rfl ?_
  refine mJ_aload_n dX7_count_192 rfl ?_
  refine mJ_get dX7_count_193 f_X7_33 rfl rfl ?_
  refine mJ_get_22_1 dX7_count_196 f_X7_125 ?_
  exact mJ_iret dX7_count_199 rfl (rfl) (rfl)
set_option maxHeartbeats 4000000 in
set_option maxRecDepth 100000 in
theorem C_X7_count_11 {C W : aF} {o n : Nat} {RS SD XS YS OR : aF} {shn : Int32} {T1 : tT} {P1 : tP} {Od : tO} {T2 : tT} {P2 : tP} : mCt k_X7_count [.ref 0, .int 11] (cH C (W, nI o, nI n) (RS, SD, XS, YS, OR, shn) T1 P1 Od T2 P2) (some (.int (gS C 0))) (cH C (W, nI o, nI n) (RS, SD, XS, YS, OR, shn) T1 P1 Od T2 P2) := by
  refine mCt_intro (plainFor_of_name rfl) (Nat.le_of_ble_eq_true rfl) (m_all rfl) (ls := [_, _]) rfl ?_
  refine mJ_iload_n dX7_count_0 rfl ?_
  refine mJ_bipush (v := 11) dX7_count_1 rfl ?_
  refine mJ_icmp_lt 24 dX7_count_3 rfl (fun c => absurd c (by decide)) (fun _ => ?_)
  refine mJ_iload_n dX7_count_6 rfl ?_
  refine mJ_bipush (v := 16) dX7_count_7 rfl ?_
  refine mJ_icmp_ge 24 dX7_count_9 rfl (fun c => absurd c (by decide)) (fun _ => ?_)
  refine mJ_aload_n dX7_count_12 rfl ?_
  refine mJ_get dX7_count_13 f_X7_12 rfl rfl ?_
  refine mJ_iload_n dX7_count_16 rfl ?_
  refine mJ_bipush (v := 11) dX7_count_17 rfl ?_
  refine mJ_isub dX7_count_19 ?_
  refine mJ_cV1i dX7_count_20 e_X5_setting n_X7_108 ⟨Nat.le_of_ble_eq_true rfl, Nat.le_of_ble_eq_true rfl⟩ rfl rfl (Nat.le_of_ble_eq_true rfl) (C_X5_setting) ?_
  exact mJ_iret dX7_count_23 rfl (rfl) (rfl)
set_option maxHeartbeats 4000000 in
set_option maxRecDepth 100000 in
theorem C_X7_count_12 {C W : aF} {o n : Nat} {RS SD XS YS OR : aF} {shn : Int32} {T1 : tT} {P1 : tP} {Od : tO} {T2 : tT} {P2 : tP} : mCt k_X7_count [.ref 0, .int 12] (cH C (W, nI o, nI n) (RS, SD, XS, YS, OR, shn) T1 P1 Od T2 P2) (some (.int (gS C 1))) (cH C (W, nI o, nI n) (RS, SD, XS, YS, OR, shn) T1 P1 Od T2 P2) := by
  refine mCt_intro (plainFor_of_name rfl) (Nat.le_of_ble_eq_true rfl) (m_all rfl) (ls := [_, _]) rfl ?_
  refine mJ_iload_n dX7_count_0 rfl ?_
  refine mJ_bipush (v := 11) dX7_count_1 rfl ?_
  refine mJ_icmp_lt 24 dX7_count_3 rfl (fun c => absurd c (by decide)) (fun _ => ?_)
  refine mJ_iload_n dX7_count_6 rfl ?_
  refine mJ_bipush (v := 16) dX7_count_7 rfl ?_
  refine mJ_icmp_ge 24 dX7_count_9 rfl (fun c => absurd c (by decide)) (fun _ => ?_)
  refine mJ_aload_n dX7_count_12 rfl ?_
  refine mJ_get dX7_count_13 f_X7_12 rfl rfl ?_
  refine mJ_iload_n dX7_count_16 rfl ?_
  refine mJ_bipush (v := 11) dX7_count_17 rfl ?_
  refine mJ_isub dX7_count_19 ?_
  refine mJ_cV1i dX7_count_20 e_X5_setting n_X7_108 ⟨Nat.le_of_ble_eq_true rfl, Nat.le_of_ble_eq_true rfl⟩ rfl rfl (Nat.le_of_ble_eq_true rfl) (C_X5_setting) ?_
  exact mJ_iret dX7_count_23 rfl (rfl) (rfl)
set_option maxHeartbeats 4000000 in
set_option maxRecDepth 100000 in
theorem C_X7_count_13 {C W : aF} {o n : Nat} {RS SD XS YS OR : aF} {shn : Int32} {T1 : tT} {P1 : tP} {Od : tO} {T2 : tT} {P2 : tP} : mCt k_X7_count [.ref 0, .int 13] (cH C (W, nI o, nI n) (RS, SD, XS, YS, OR, shn) T1 P1 Od T2 P2) (some (.int (gS C 2))) (cH C (W, nI o, nI n) (RS, SD, XS, YS, OR, shn) T1 P1 Od T2 P2) := by
  refine mCt_intro (plainFor_of_name rfl) (Nat.le_of_ble_eq_true rfl) (m_all rfl) (ls := [_, _]) rfl ?_
  refine mJ_iload_n dX7_count_0 rfl ?_
  refine mJ_bipush (v := 11) dX7_count_1 rfl ?_
  refine mJ_icmp_lt 24 dX7_count_3 rfl (fun c => absurd c (by decide)) (fun _ => ?_)
  refine mJ_iload_n dX7_count_6 rfl ?_
  refine mJ_bipush (v := 16) dX7_count_7 rfl ?_
  refine mJ_icmp_ge 24 dX7_count_9 rfl (fun c => absurd c (by decide)) (fun _ => ?_)
  refine mJ_aload_n dX7_count_12 rfl ?_
  refine mJ_get dX7_count_13 f_X7_12 rfl rfl ?_
  refine mJ_iload_n dX7_count_16 rfl ?_
  refine mJ_bipush (v := 11) dX7_count_17 rfl ?_
  refine mJ_isub dX7_count_19 ?_
  refine mJ_cV1i dX7_count_20 e_X5_setting n_X7_108 ⟨Nat.le_of_ble_eq_true rfl, Nat.le_of_ble_eq_true rfl⟩ rfl rfl (Nat.le_of_ble_eq_true rfl) (C_X5_setting) ?_
  exact mJ_iret dX7_count_23 rfl (rfl) (rfl)
set_option maxHeartbeats 4000000 in
set_option maxRecDepth 100000 in
theorem C_X7_count_14 {C W : aF} {o n : Nat} {RS SD XS YS OR : aF} {shn : Int32} {T1 : tT} {P1 : tP} {Od : tO} {T2 : tT} {P2 : tP} : mCt k_X7_count [.ref 0, .int 14] (cH C (W, nI o, nI n) (RS, SD, XS, YS, OR, shn) T1 P1 Od T2 P2) (some (.int (gS C 3))) (cH C (W, nI o, nI n) (RS, SD, XS, YS, OR, shn) T1 P1 Od T2 P2) := by
  refine mCt_intro (plainFor_of_name rfl) (Nat.le_of_ble_eq_true rfl) (m_all rfl) (ls := [_, _]) rfl ?_
  refine mJ_iload_n dX7_count_0 rfl ?_
  refine mJ_bipush (v := 11) dX7_count_1 rfl ?_
  refine mJ_icmp_lt 24 dX7_count_3 rfl (fun c => absurd c (by decide)) (fun _ => ?_)
  refine mJ_iload_n dX7_count_6 rfl ?_
  refine mJ_bipush (v := 16) dX7_count_7 rfl ?_
  refine mJ_icmp_ge 24 dX7_count_9 rfl (fun c => absurd c (by decide)) (fun _ => ?_)
  refine mJ_aload_n dX7_count_12 rfl ?_
  refine mJ_get dX7_count_13 f_X7_12 rfl rfl ?_
  refine mJ_iload_n dX7_count_16 rfl ?_
  refine mJ_bipush (v := 11) dX7_count_17 rfl ?_
  refine mJ_isub dX7_count_19 ?_
  refine mJ_cV1i dX7_count_20 e_X5_setting n_X7_108 ⟨Nat.le_of_ble_eq_true rfl, Nat.le_of_ble_eq_true rfl⟩ rfl rfl (Nat.le_of_ble_eq_true rfl) (C_X5_setting) ?_
  exact mJ_iret dX7_count_23 rfl (rfl) (rfl)
set_option maxHeartbeats 4000000 in
set_option maxRecDepth 100000 in
theorem C_X7_count_15 {C W : aF} {o n : Nat} {RS SD XS YS OR : aF} {shn : Int32} {T1 : tT} {P1 : tP} {Od : tO} {T2 : tT} {P2 : tP} : mCt k_X7_count [.ref 0, .int 15] (cH C (W, nI o, nI n) (RS, SD, XS, YS, OR, shn) T1 P1 Od T2 P2) (some (.int (gS C 4))) (cH C (W, nI o, nI n) (RS, SD, XS, YS, OR, shn) T1 P1 Od T2 P2) := by
  refine mCt_intro (plainFor_of_name rfl) (Nat.le_of_ble_eq_true rfl) (m_all rfl) (ls := [_, _]) rfl ?_
  refine mJ_iload_n dX7_count_0 rfl ?_
  refine mJ_bipush (v := 11) dX7_count_1 rfl ?_
  refine mJ_icmp_lt 24 dX7_count_3 rfl (fun c => absurd c (by decide)) (fun _ => ?_)
  refine mJ_iload_n dX7_count_6 rfl ?_
  refine mJ_bipush (v := 16) dX7_count_7 rfl ?_
  refine mJ_icmp_ge 24 dX7_count_9 rfl (fun c => absurd c (by decide)) (fun _ => ?_)
  refine mJ_aload_n dX7_count_12 rfl ?_
  refine mJ_get dX7_count_13 f_X7_12 rfl rfl ?_
  refine mJ_iload_n dX7_count_16 rfl ?_
  refine mJ_bipush (v := 11) dX7_count_17 rfl ?_
  refine mJ_isub dX7_count_19 ?_
  refine mJ_cV1i dX7_count_20 e_X5_setting n_X7_108 ⟨Nat.le_of_ble_eq_true rfl, Nat.le_of_ble_eq_true rfl⟩ rfl rfl (Nat.le_of_ble_eq_true rfl) (C_X5_setting) ?_
  exact mJ_iret dX7_count_23 rfl (rfl) (rfl)
set_option maxHeartbeats 4000000 in
set_option maxRecDepth 100000 in
theorem C_X7_count_16 {C W : aF} {o n : Nat} {RS SD XS YS OR : aF} {shn : Int32} {T1 : tT} {P1 : tP} {Od : tO} {T2 : tT} {P2 : tP} {nH : Nat} (h5 : gG C 5 = nI nH) (hl : nH ≤ 12) : mCt k_X7_count [.ref 0, .int 16] (cH C (W, nI o, nI n) (RS, SD, XS, YS, OR, shn) T1 P1 Od T2 P2) (some (.int (cS (fun o => RS o = 0) (fun o => gH C (nI o) 1 * gH C (nI o) 2) nH))) (cH C (W, nI o, nI n) (RS, SD, XS, YS, OR, shn) T1 P1 Od T2 P2) := by
  refine mCt_intro (plainFor_of_name rfl) (Nat.le_of_ble_eq_true rfl) (m_all rfl) (ls := [_, _]) rfl ?_
  refine mJ_iload_n dX7_count_0 rfl ?_
  refine mJ_bipush (v := 11) dX7_count_1 rfl ?_
  refine mJ_icmp_lt 24 dX7_count_3 rfl (fun c => absurd c (by decide)) (fun _ => ?_)
  refine mJ_iload_n dX7_count_6 rfl ?_
  refine mJ_bipush (v := 16) dX7_count_7 rfl ?_
  refine mJ_icmp_ge 24 dX7_count_9 rfl (fun _ => ?_) (fun c => absurd c (by decide))
  refine mJ_iload_n dX7_count_24 rfl ?_
  refine mJ_tin 200 dX7_count_25 (by decide) (by decide) rfl rfl ?_
  refine mJ_aload_n dX7_count_200 rfl ?_
  refine mJ_cV0i dX7_count_201 e_X7_countCovered n_X7_128 ⟨Nat.le_of_ble_eq_true rfl, Nat.le_of_ble_eq_true rfl⟩ rfl rfl (Nat.le_of_ble_eq_true rfl) (C_X7_countCovered h5 hl) ?_
  exact mJ_iret dX7_count_204 rfl (rfl) (rfl)
set_option maxHeartbeats 4000000 in
set_option maxRecDepth 100000 in
theorem C_X7_count_17 {C W : aF} {o n : Nat} {RS SD XS YS OR : aF} {shn : Int32} {T1 : tT} {P1 : tP} {Od : tO} {T2 : tT} {P2 : tP} : mCt k_X7_count [.ref 0, .int 17] (cH C (W, nI o, nI n) (RS, SD, XS, YS, OR, shn) T1 P1 Od T2 P2) (some (.int (shn))) (cH C (W, nI o, nI n) (RS, SD, XS, YS, OR, shn) T1 P1 Od T2 P2) := by
  refine mCt_intro (plainFor_of_name rfl) (Nat.le_of_ble_eq_true rfl) (m_all rfl) (ls := [_, _]) rfl ?_
  refine mJ_iload_n dX7_count_0 rfl ?_
  refine mJ_bipush (v := 11) dX7_count_1 rfl ?_
  refine mJ_icmp_lt 24 dX7_count_3 rfl (fun c => absurd c (by decide)) (fun _ => ?_)
  refine mJ_iload_n dX7_count_6 rfl ?_
  refine mJ_bipush (v := 16) dX7_count_7 rfl ?_
  refine mJ_icmp_ge 24 dX7_count_9 rfl (fun _ => ?_) (fun c => absurd c (by decide))
  refine mJ_iload_n dX7_count_24 rfl ?_
  refine mJ_tin 205 dX7_count_25 (by decide) (by decide) rfl rfl ?_
  refine mJ_aload_n dX7_count_205 rfl ?_
  refine mJ_get dX7_count_206 f_X7_26 rfl rfl ?_
  refine mJ_get_7_7 dX7_count_209 f_X7_115 ?_
  exact mJ_iret dX7_count_212 rfl (rfl) (rfl)
theorem cnt_in {v : Int32} (h1 : ¬ v < 11) (h2 : v < 16) : q_rg v 0 17 := by
  unfold q_rg
  simp only [Int32.lt_iff_toInt_lt] at *
  have e1 : (11 : Int32).toInt = 11 := by decide
  have e2 : (16 : Int32).toInt = 16 := by decide
  have e3 : (0 : Int32).toInt = 0 := by decide
  have e4 : (17 : Int32).toInt = 17 := by decide
  omega
set_option maxHeartbeats 4000000 in
set_option maxRecDepth 100000 in
theorem C_X7_count_bad {C W : aF} {o n : Nat} {RS SD XS YS OR : aF} {shn : Int32} {T1 : tT} {P1 : tP} {Od : tO} {T2 : tT} {P2 : tP} {v : Int32} (hb : ¬ q_rg v 0 17) : mCt k_X7_count [.ref 0, .int v] (cH C (W, nI o, nI n) (RS, SD, XS, YS, OR, shn) T1 P1 Od T2 P2) (some (.int (-10001))) (cH C (W, nI o, nI n) (RS, SD, XS, YS, OR, shn) T1 P1 Od T2 P2) := by
  refine mCt_intro (plainFor_of_name rfl) (Nat.le_of_ble_eq_true rfl) (m_all rfl) (ls := [_, _]) rfl ?_
  refine mJ_iload_n dX7_count_0 rfl ?_
  refine mJ_bipush (v := 11) dX7_count_1 rfl ?_
  refine mJ_icmp_lt 24 dX7_count_3 rfl (fun c_3 => ?_) (fun c_3 => ?_)
  · refine mJ_iload_n dX7_count_24 rfl ?_
    refine mJ_case 0 (fun s_25_0 => ?_) (fun s_25_0 => ?_)
    · exact False.elim (by exact hb (by rw [s_25_0]; exact ⟨by decide, by decide⟩))
    refine mJ_case 1 (fun s_25_1 => ?_) (fun s_25_1 => ?_)
    · exact False.elim (by exact hb (by rw [s_25_1]; exact ⟨by decide, by decide⟩))
    refine mJ_case 2 (fun s_25_2 => ?_) (fun s_25_2 => ?_)
    · exact False.elim (by exact hb (by rw [s_25_2]; exact ⟨by decide, by decide⟩))
    refine mJ_case 3 (fun s_25_3 => ?_) (fun s_25_3 => ?_)
    · exact False.elim (by exact hb (by rw [s_25_3]; exact ⟨by decide, by decide⟩))
    refine mJ_case 4 (fun s_25_4 => ?_) (fun s_25_4 => ?_)
    · exact False.elim (by exact hb (by rw [s_25_4]; exact ⟨by decide, by decide⟩))
    refine mJ_case 5 (fun s_25_5 => ?_) (fun s_25_5 => ?_)
    · exact False.elim (by exact hb (by rw [s_25_5]; exact ⟨by decide, by decide⟩))
    refine mJ_case 6 (fun s_25_6 => ?_) (fun s_25_6 => ?_)
    · exact False.elim (by exact hb (by rw [s_25_6]; exact ⟨by decide, by decide⟩))
    refine mJ_case 7 (fun s_25_7 => ?_) (fun s_25_7 => ?_)
    · exact False.elim (by exact hb (by rw [s_25_7]; exact ⟨by decide, by decide⟩))
    refine mJ_case 8 (fun s_25_8 => ?_) (fun s_25_8 => ?_)
    · exact False.elim (by exact hb (by rw [s_25_8]; exact ⟨by decide, by decide⟩))
    refine mJ_case 9 (fun s_25_9 => ?_) (fun s_25_9 => ?_)
    · exact False.elim (by exact hb (by rw [s_25_9]; exact ⟨by decide, by decide⟩))
    refine mJ_case 10 (fun s_25_10 => ?_) (fun s_25_10 => ?_)
    · exact False.elim (by exact hb (by rw [s_25_10]; exact ⟨by decide, by decide⟩))
    refine mJ_case 11 (fun s_25_11 => ?_) (fun s_25_11 => ?_)
    · exact False.elim (by exact hb (by rw [s_25_11]; exact ⟨by decide, by decide⟩))
    refine mJ_case 12 (fun s_25_12 => ?_) (fun s_25_12 => ?_)
    · exact False.elim (by exact hb (by rw [s_25_12]; exact ⟨by decide, by decide⟩))
    refine mJ_case 13 (fun s_25_13 => ?_) (fun s_25_13 => ?_)
    · exact False.elim (by exact hb (by rw [s_25_13]; exact ⟨by decide, by decide⟩))
    refine mJ_case 14 (fun s_25_14 => ?_) (fun s_25_14 => ?_)
    · exact False.elim (by exact hb (by rw [s_25_14]; exact ⟨by decide, by decide⟩))
    refine mJ_case 15 (fun s_25_15 => ?_) (fun s_25_15 => ?_)
    · exact False.elim (by exact hb (by rw [s_25_15]; exact ⟨by decide, by decide⟩))
    refine mJ_case 16 (fun s_25_16 => ?_) (fun s_25_16 => ?_)
    · exact False.elim (by exact hb (by rw [s_25_16]; exact ⟨by decide, by decide⟩))
    refine mJ_case 17 (fun s_25_17 => ?_) (fun s_25_17 => ?_)
    · exact False.elim (by exact hb (by rw [s_25_17]; exact ⟨by decide, by decide⟩))
    refine mJ_tout 213 dX7_count_25 (m_out (fun z z1 z2 z3 => ?_)) rfl ?_
    · rcases (show z = 0 ∨ z = 1 ∨ z = 2 ∨ z = 3 ∨ z = 4 ∨ z = 5 ∨ z = 6 ∨ z = 7 ∨ z = 8 ∨ z = 9 ∨ z = 10 ∨ z = 11 ∨ z = 12 ∨ z = 13 ∨ z = 14 ∨ z = 15 ∨ z = 16 ∨ z = 17 by omega) with rfl | rfl | rfl | rfl | rfl | rfl | rfl | rfl | rfl | rfl | rfl | rfl | rfl | rfl | rfl | rfl | rfl | rfl
      · exact s_25_0 (Int32.toInt_inj.mp z3)
      · exact s_25_1 (Int32.toInt_inj.mp z3)
      · exact s_25_2 (Int32.toInt_inj.mp z3)
      · exact s_25_3 (Int32.toInt_inj.mp z3)
      · exact s_25_4 (Int32.toInt_inj.mp z3)
      · exact s_25_5 (Int32.toInt_inj.mp z3)
      · exact s_25_6 (Int32.toInt_inj.mp z3)
      · exact s_25_7 (Int32.toInt_inj.mp z3)
      · exact s_25_8 (Int32.toInt_inj.mp z3)
      · exact s_25_9 (Int32.toInt_inj.mp z3)
      · exact s_25_10 (Int32.toInt_inj.mp z3)
      · exact s_25_11 (Int32.toInt_inj.mp z3)
      · exact s_25_12 (Int32.toInt_inj.mp z3)
      · exact s_25_13 (Int32.toInt_inj.mp z3)
      · exact s_25_14 (Int32.toInt_inj.mp z3)
      · exact s_25_15 (Int32.toInt_inj.mp z3)
      · exact s_25_16 (Int32.toInt_inj.mp z3)
      · exact s_25_17 (Int32.toInt_inj.mp z3)
    · refine mJ_sipush (v := (-10001)) dX7_count_213 rfl ?_
      exact mJ_iret dX7_count_216 rfl (rfl) (rfl)
  · refine mJ_iload_n dX7_count_6 rfl ?_
    refine mJ_bipush (v := 16) dX7_count_7 rfl ?_
    refine mJ_icmp_ge 24 dX7_count_9 rfl (fun c_9 => ?_) (fun c_9 => False.elim (by exact hb (cnt_in c_3 (Int32.not_le.mp c_9))))
    refine mJ_iload_n dX7_count_24 rfl ?_
    refine mJ_case 0 (fun s_25_0 => ?_) (fun s_25_0 => ?_)
    · exact False.elim (by exact hb (by rw [s_25_0]; exact ⟨by decide, by decide⟩))
    refine mJ_case 1 (fun s_25_1 => ?_) (fun s_25_1 => ?_)
    · exact False.elim (by exact hb (by rw [s_25_1]; exact ⟨by decide, by decide⟩))
    refine mJ_case 2 (fun s_25_2 => ?_) (fun s_25_2 => ?_)
    · exact False.elim (by exact hb (by rw [s_25_2]; exact ⟨by decide, by decide⟩))
    refine mJ_case 3 (fun s_25_3 => ?_) (fun s_25_3 => ?_)
    · exact False.elim (by exact hb (by rw [s_25_3]; exact ⟨by decide, by decide⟩))
    refine mJ_case 4 (fun s_25_4 => ?_) (fun s_25_4 => ?_)
    · exact False.elim (by exact hb (by rw [s_25_4]; exact ⟨by decide, by decide⟩))
    refine mJ_case 5 (fun s_25_5 => ?_) (fun s_25_5 => ?_)
    · exact False.elim (by exact hb (by rw [s_25_5]; exact ⟨by decide, by decide⟩))
    refine mJ_case 6 (fun s_25_6 => ?_) (fun s_25_6 => ?_)
    · exact False.elim (by exact hb (by rw [s_25_6]; exact ⟨by decide, by decide⟩))
    refine mJ_case 7 (fun s_25_7 => ?_) (fun s_25_7 => ?_)
    · exact False.elim (by exact hb (by rw [s_25_7]; exact ⟨by decide, by decide⟩))
    refine mJ_case 8 (fun s_25_8 => ?_) (fun s_25_8 => ?_)
    · exact False.elim (by exact hb (by rw [s_25_8]; exact ⟨by decide, by decide⟩))
    refine mJ_case 9 (fun s_25_9 => ?_) (fun s_25_9 => ?_)
    · exact False.elim (by exact hb (by rw [s_25_9]; exact ⟨by decide, by decide⟩))
    refine mJ_case 10 (fun s_25_10 => ?_) (fun s_25_10 => ?_)
    · exact False.elim (by exact hb (by rw [s_25_10]; exact ⟨by decide, by decide⟩))
    refine mJ_case 11 (fun s_25_11 => ?_) (fun s_25_11 => ?_)
    · exact False.elim (by exact hb (by rw [s_25_11]; exact ⟨by decide, by decide⟩))
    refine mJ_case 12 (fun s_25_12 => ?_) (fun s_25_12 => ?_)
    · exact False.elim (by exact hb (by rw [s_25_12]; exact ⟨by decide, by decide⟩))
    refine mJ_case 13 (fun s_25_13 => ?_) (fun s_25_13 => ?_)
    · exact False.elim (by exact hb (by rw [s_25_13]; exact ⟨by decide, by decide⟩))
    refine mJ_case 14 (fun s_25_14 => ?_) (fun s_25_14 => ?_)
    · exact False.elim (by exact hb (by rw [s_25_14]; exact ⟨by decide, by decide⟩))
    refine mJ_case 15 (fun s_25_15 => ?_) (fun s_25_15 => ?_)
    · exact False.elim (by exact hb (by rw [s_25_15]; exact ⟨by decide, by decide⟩))
    refine mJ_case 16 (fun s_25_16 => ?_) (fun s_25_16 => ?_)
    · exact False.elim (by exact hb (by rw [s_25_16]; exact ⟨by decide, by decide⟩))
    refine mJ_case 17 (fun s_25_17 => ?_) (fun s_25_17 => ?_)
    · exact False.elim (by exact hb (by rw [s_25_17]; exact ⟨by decide, by decide⟩))
    refine mJ_tout 213 dX7_count_25 (m_out (fun z z1 z2 z3 => ?_)) rfl ?_
    · rcases (show z = 0 ∨ z = 1 ∨ z = 2 ∨ z = 3 ∨ z = 4 ∨ z = 5 ∨ z = 6 ∨ z = 7 ∨ z = 8 ∨ z = 9 ∨ z = 10 ∨ z = 11 ∨ z = 12 ∨ z = 13 ∨ z = 14 ∨ z = 15 ∨ z = 16 ∨ z = 17 by omega) with rfl | rfl | rfl | rfl | rfl | rfl | rfl | rfl | rfl | rfl | rfl | rfl | rfl | rfl | rfl | rfl | rfl | rfl
      · exact s_25_0 (Int32.toInt_inj.mp z3)
      · exact s_25_1 (Int32.toInt_inj.mp z3)
      · exact s_25_2 (Int32.toInt_inj.mp z3)
      · exact s_25_3 (Int32.toInt_inj.mp z3)
      · exact s_25_4 (Int32.toInt_inj.mp z3)
      · exact s_25_5 (Int32.toInt_inj.mp z3)
      · exact s_25_6 (Int32.toInt_inj.mp z3)
      · exact s_25_7 (Int32.toInt_inj.mp z3)
      · exact s_25_8 (Int32.toInt_inj.mp z3)
      · exact s_25_9 (Int32.toInt_inj.mp z3)
      · exact s_25_10 (Int32.toInt_inj.mp z3)
      · exact s_25_11 (Int32.toInt_inj.mp z3)
      · exact s_25_12 (Int32.toInt_inj.mp z3)
      · exact s_25_13 (Int32.toInt_inj.mp z3)
      · exact s_25_14 (Int32.toInt_inj.mp z3)
      · exact s_25_15 (Int32.toInt_inj.mp z3)
      · exact s_25_16 (Int32.toInt_inj.mp z3)
      · exact s_25_17 (Int32.toInt_inj.mp z3)
    · refine mJ_sipush (v := (-10001)) dX7_count_213 rfl ?_
      exact mJ_iret dX7_count_216 rfl (rfl) (rfl)
set_option maxHeartbeats 4000000 in
set_option maxRecDepth 100000 in
theorem C_X7_hintOf_bad {C W : aF} {o n : Nat} {RS SD XS YS OR : aF} {shn : Int32} {T1 : tT} {P1 : tP} {Od : tO} {T2 : tT} {P2 : tP} {h w : Int32} (hb : ¬ (q_hint C h ∧ ¬ w < 0 ∧ w ≤ 16)) : mCt k_X7_hintOf [.ref 0, .int h, .int w] (cH C (W, nI o, nI n) (RS, SD, XS, YS, OR, shn) T1 P1 Od T2 P2) (some (.int (-10001))) (cH C (W, nI o, nI n) (RS, SD, XS, YS, OR, shn) T1 P1 Od T2 P2) := by
  refine mCt_intro (plainFor_of_name rfl) (Nat.le_of_ble_eq_true rfl) (m_all rfl) (ls := [_, _, _, _]) rfl ?_
  refine mJ_aload_n dX7_hintOf_0 rfl ?_
  refine mJ_iload_n dX7_hintOf_1 rfl ?_
  refine mJ_cV1i dX7_hintOf_2 e_X7_isHint n_X7_140 ⟨Nat.le_of_ble_eq_true rfl, Nat.le_of_ble_eq_true rfl⟩ rfl rfl (Nat.le_of_ble_eq_true rfl) (C_X7_isHint) ?_
  refine mJ_b2i (fun b_2 => ?_) (fun b_2 => ?_)
  · refine mJ_if_eq 18 dX7_hintOf_5 rfl (fun c => absurd c (by decide)) (fun _ => ?_)
    refine mJ_iload_n dX7_hintOf_8 rfl ?_
    refine mJ_if_lt 18 dX7_hintOf_9 rfl (fun c_9 => ?_) (fun c_9 => ?_)
    · refine mJ_sipush (v := (-10001)) dX7_hintOf_18 rfl ?_
      exact mJ_iret dX7_hintOf_21 rfl (rfl) (rfl)
    · refine mJ_iload_n dX7_hintOf_12 rfl ?_
      refine mJ_bipush (v := 16) dX7_hintOf_13 rfl ?_
      refine mJ_icmp_le 22 dX7_hintOf_15 rfl (fun c_15 => False.elim (by exact hb ⟨b_2, c_9, c_15⟩)) (fun c_15 => ?_)
      refine mJ_sipush (v := (-10001)) dX7_hintOf_18 rfl ?_
      exact mJ_iret dX7_hintOf_21 rfl (rfl) (rfl)
  · refine mJ_if_eq 18 dX7_hintOf_5 rfl (fun _ => ?_) (fun c => absurd c (by decide))
    refine mJ_sipush (v := (-10001)) dX7_hintOf_18 rfl ?_
    exact mJ_iret dX7_hintOf_21 rfl (rfl) (rfl)
set_option maxHeartbeats 4000000 in
set_option maxRecDepth 100000 in
theorem C_X7_hintOf_0 {C W : aF} {o n : Nat} {RS SD XS YS OR : aF} {shn : Int32} {T1 : tT} {P1 : tP} {Od : tO} {T2 : tT} {P2 : tP} {h : Nat} (hh : h < 12) (h1 : q_hint C (nI h)) : mCt k_X7_hintOf [.ref 0, .int (nI h), .int 0] (cH C (W, nI o, nI n) (RS, SD, XS, YS, OR, shn) T1 P1 Od T2 P2) (some (.int (gH C (nI h) 0))) (cH C (W, nI o, nI n) (RS, SD, XS, YS, OR, shn) T1 P1 Od T2 P2) := by
  refine mCt_intro (plainFor_of_name rfl) (Nat.le_of_ble_eq_true rfl) (m_all rfl) (ls := [_, _, _, _]) rfl ?_
  refine mJ_aload_n dX7_hintOf_0 rfl ?_
  refine mJ_iload_n dX7_hintOf_1 rfl ?_
  refine mJ_cV1i dX7_hintOf_2 e_X7_isHint n_X7_140 ⟨Nat.le_of_ble_eq_true rfl, Nat.le_of_ble_eq_true rfl⟩ rfl rfl (Nat.le_of_ble_eq_true rfl) (C_X7_isHint) ?_
  refine mJ_top (b2i_t h1) ?_
  refine mJ_if_eq 18 dX7_hintOf_5 rfl (fun c => absurd c (by decide)) (fun _ => ?_)
  refine mJ_iload_n dX7_hintOf_8 rfl ?_
  refine mJ_if_lt 18 dX7_hintOf_9 rfl (fun c => absurd c (by decide)) (fun _ => ?_)
  refine mJ_iload_n dX7_hintOf_12 rfl ?_
  refine mJ_bipush (v := 16) dX7_hintOf_13 rfl ?_
  refine mJ_icmp_le 22 dX7_hintOf_15 rfl (fun _ => ?_) (fun c => absurd c (by decide))
  refine mJ_iload_n dX7_hintOf_22 rfl ?_
  refine mJ_bipush (v := 8) dX7_hintOf_23 rfl ?_
  refine mJ_icmp_ge 38 dX7_hintOf_25 rfl (fun c => absurd c (by decide)) (fun _ => ?_)
  refine mJ_aload_n dX7_hintOf_28 rfl ?_
  refine mJ_get dX7_hintOf_29 f_X7_12 rfl rfl ?_
  refine mJ_iload_n dX7_hintOf_32 rfl ?_
  refine mJ_iload_n dX7_hintOf_33 rfl ?_
  refine mJ_cV2i dX7_hintOf_34 e_X5_hintValue n_X7_146 ⟨Nat.le_of_ble_eq_true rfl, Nat.le_of_ble_eq_true rfl⟩ rfl rfl (Nat.le_of_ble_eq_true rfl) (C_X5_hintValue) ?_
  exact mJ_iret dX7_hintOf_37 rfl (rfl) (rfl)
set_option maxHeartbeats 4000000 in
set_option maxRecDepth 100000 in
theorem C_X7_hintOf_1 {C W : aF} {o n : Nat} {RS SD XS YS OR : aF} {shn : Int32} {T1 : tT} {P1 : tP} {Od : tO} {T2 : tT} {P2 : tP} {h : Nat} (hh : h < 12) (h1 : q_hint C (nI h)) : mCt k_X7_hintOf [.ref 0, .int (nI h), .int 1] (cH C (W, nI o, nI n) (RS, SD, XS, YS, OR, shn) T1 P1 Od T2 P2) (some (.int (gH C (nI h) 1))) (cH C (W, nI o, nI n) (RS, SD, XS, YS, OR, shn) T1 P1 Od T2 P2) := by
  refine mCt_intro (plainFor_of_name rfl) (Nat.le_of_ble_eq_true rfl) (m_all rfl) (ls := [_, _, _, _]) rfl ?_
  refine mJ_aload_n dX7_hintOf_0 rfl ?_
  refine mJ_iload_n dX7_hintOf_1 rfl ?_
  refine mJ_cV1i dX7_hintOf_2 e_X7_isHint n_X7_140 ⟨Nat.le_of_ble_eq_true rfl, Nat.le_of_ble_eq_true rfl⟩ rfl rfl (Nat.le_of_ble_eq_true rfl) (C_X7_isHint) ?_
  refine mJ_top (b2i_t h1) ?_
  refine mJ_if_eq 18 dX7_hintOf_5 rfl (fun c => absurd c (by decide)) (fun _ => ?_)
  refine mJ_iload_n dX7_hintOf_8 rfl ?_
  refine mJ_if_lt 18 dX7_hintOf_9 rfl (fun c => absurd c (by decide)) (fun _ => ?_)
  refine mJ_iload_n dX7_hintOf_12 rfl ?_
  refine mJ_bipush (v := 16) dX7_hintOf_13 rfl ?_
  refine mJ_icmp_le 22 dX7_hintOf_15 rfl (fun _ => ?_) (fun c => absurd c (by decide))
  refine mJ_iload_n dX7_hintOf_22 rfl ?_
  refine mJ_bipush (v := 8) dX7_hintOf_23 rfl ?_
  refine mJ_icmp_ge 38 dX7_hintOf_25 rfl (fun c => absurd c (by decide)) (fun _ => ?_)
  refine mJ_aload_n dX7_hintOf_28 rfl ?_
  refine mJ_get dX7_hintOf_29 f_X7_12 rfl rfl ?_
  refine mJ_iload_n dX7_hintOf_32 rfl ?_
  refine mJ_iload_n dX7_hintOf_33 rfl ?_
  refine mJ_cV2i dX7_hintOf_34 e_X5_hintValue n_X7_146 ⟨Nat.le_of_ble_eq_true rfl, Nat.le_of_ble_eq_true rfl⟩ rfl rfl (Nat.le_of_ble_eq_true rfl) (C_X5_hintValue) ?_
  exact mJ_iret dX7_hintOf_37 rfl (rfl) (rfl)
set_option maxHeartbeats 4000000 in
set_option maxRecDepth 100000 in
theorem C_X7_hintOf_2 {C W : aF} {o n : Nat} {RS SD XS YS OR : aF} {shn : Int32} {T1 : tT} {P1 : tP} {Od : tO} {T2 : tT} {P2 : tP} {h : Nat} (hh : h < 12) (h1 : q_hint C (nI h)) : mCt k_X7_hintOf [.ref 0, .int (nI h), .int 2] (cH C (W, nI o, nI n) (RS, SD, XS, YS, OR, shn) T1 P1 Od T2 P2) (some (.int (gH C (nI h) 2))) (cH C (W, nI o, nI n) (RS, SD, XS, YS, OR, shn) T1 P1 Od T2 P2) := by
  refine mCt_intro (plainFor_of_name rfl) (Nat.le_of_ble_eq_true rfl) (m_all rfl) (ls := [_, _, _, _]) rfl ?_
  refine mJ_aload_n dX7_hintOf_0 rfl ?_
  refine mJ_iload_n dX7_hintOf_1 rfl ?_
  refine mJ_cV1i dX7_hintOf_2 e_X7_isHint n_X7_140 ⟨Nat.le_of_ble_eq_true rfl, Nat.le_of_ble_eq_true rfl⟩ rfl rfl (Nat.le_of_ble_eq_true rfl) (C_X7_isHint) ?_
  refine mJ_top (b2i_t h1) ?_
  refine mJ_if_eq 18 dX7_hintOf_5 rfl (fun c => absurd c (by decide)) (fun _ => ?_)
  refine mJ_iload_n dX7_hintOf_8 rfl ?_
  refine mJ_if_lt 18 dX7_hintOf_9 rfl (fun c => absurd c (by decide)) (fun _ => ?_)
  refine mJ_iload_n dX7_hintOf_12 rfl ?_
  refine mJ_bipush (v := 16) dX7_hintOf_13 rfl ?_
  refine mJ_icmp_le 22 dX7_hintOf_15 rfl (fun _ => ?_) (fun c => absurd c (by decide))
  refine mJ_iload_n dX7_hintOf_22 rfl ?_
  refine mJ_bipush (v := 8) dX7_hintOf_23 rfl ?_
  refine mJ_icmp_ge 38 dX7_hintOf_25 rfl (fun c => absurd c (by decide)) (fun _ => ?_)
  refine mJ_aload_n dX7_hintOf_28 rfl ?_
  refine mJ_get dX7_hintOf_29 f_X7_12 rfl rfl ?_
  refine mJ_iload_n dX7_hintOf_32 rfl ?_
  refine mJ_iload_n dX7_hintOf_33 rfl ?_
  refine mJ_cV2i dX7_hintOf_34 e_X5_hintValue n_X7_146 ⟨Nat.le_of_ble_eq_true rfl, Nat.le_of_ble_eq_true rfl⟩ rfl rfl (Nat.le_of_ble_eq_true rfl) (C_X5_hintValue) ?_
  exact mJ_iret dX7_hintOf_37 rfl (rfl) (rfl)
set_option maxHeartbeats 4000000 in
set_option maxRecDepth 100000 in
theorem C_X7_hintOf_3 {C W : aF} {o n : Nat} {RS SD XS YS OR : aF} {shn : Int32} {T1 : tT} {P1 : tP} {Od : tO} {T2 : tT} {P2 : tP} {h : Nat} (hh : h < 12) (h1 : q_hint C (nI h)) : mCt k_X7_hintOf [.ref 0, .int (nI h), .int 3] (cH C (W, nI o, nI n) (RS, SD, XS, YS, OR, shn) T1 P1 Od T2 P2) (some (.int (gH C (nI h) 3))) (cH C (W, nI o, nI n) (RS, SD, XS, YS, OR, shn) T1 P1 Od T2 P2) := by
  refine mCt_intro (plainFor_of_name rfl) (Nat.le_of_ble_eq_true rfl) (m_all rfl) (ls := [_, _, _, _]) rfl ?_
  refine mJ_aload_n dX7_hintOf_0 rfl ?_
  refine mJ_iload_n dX7_hintOf_1 rfl ?_
  refine mJ_cV1i dX7_hintOf_2 e_X7_isHint n_X7_140 ⟨Nat.le_of_ble_eq_true rfl, Nat.le_of_ble_eq_true rfl⟩ rfl rfl (Nat.le_of_ble_eq_true rfl) (C_X7_isHint) ?_
  refine mJ_top (b2i_t h1) ?_
  refine mJ_if_eq 18 dX7_hintOf_5 rfl (fun c => absurd c (by decide)) (fun _ => ?_)
  refine mJ_iload_n dX7_hintOf_8 rfl ?_
  refine mJ_if_lt 18 dX7_hintOf_9 rfl (fun c => absurd c (by decide)) (fun _ => ?_)
  refine mJ_iload_n dX7_hintOf_12 rfl ?_
  refine mJ_bipush (v := 16) dX7_hintOf_13 rfl ?_
  refine mJ_icmp_le 22 dX7_hintOf_15 rfl (fun _ => ?_) (fun c => absurd c (by decide))
  refine mJ_iload_n dX7_hintOf_22 rfl ?_
  refine mJ_bipush (v := 8) dX7_hintOf_23 rfl ?_
  refine mJ_icmp_ge 38 dX7_hintOf_25 rfl (fun c => absurd c (by decide)) (fun _ => ?_)
  refine mJ_aload_n dX7_hintOf_28 rfl ?_
  refine mJ_get dX7_hintOf_29 f_X7_12 rfl rfl ?_
  refine mJ_iload_n dX7_hintOf_32 rfl ?_
  refine mJ_iload_n dX7_hintOf_33 rfl ?_
  refine mJ_cV2i dX7_hintOf_34 e_X5_hintValue n_X7_146 ⟨Nat.le_of_ble_eq_true rfl, Nat.le_of_ble_eq_true rfl⟩ rfl rfl (Nat.le_of_ble_eq_true rfl) (C_X5_hintValue) ?_
  exact mJ_iret dX7_hintOf_37 rfl (rfl) (rfl)
set_option maxHeartbeats 4000000 in
set_option maxRecDepth 100000 in
theorem C_X7_hintOf_4 {C W : aF} {o n : Nat} {RS SD XS YS OR : aF} {shn : Int32} {T1 : tT} {P1 : tP} {Od : tO} {T2 : tT} {P2 : tP} {h : Nat} (hh : h < 12) (h1 : q_hint C (nI h)) : mCt k_X7_hintOf [.ref 0, .int (nI h), .int 4] (cH C (W, nI o, nI n) (RS, SD, XS, YS, OR, shn) T1 P1 Od T2 P2) (some (.int (gH C (nI h) 4))) (cH C (W, nI o, nI n) (RS, SD, XS, YS, OR, shn) T1 P1 Od T2 P2) := by
  refine mCt_intro (plainFor_of_name rfl) (Nat.le_of_ble_eq_true rfl) (m_all rfl) (ls := [_, _, _, _]) rfl ?_
  refine mJ_aload_n dX7_hintOf_0 rfl ?_
  refine mJ_iload_n dX7_hintOf_1 rfl ?_
  refine mJ_cV1i dX7_hintOf_2 e_X7_isHint n_X7_140 ⟨Nat.le_of_ble_eq_true rfl, Nat.le_of_ble_eq_true rfl⟩ rfl rfl (Nat.le_of_ble_eq_true rfl) (C_X7_isHint) ?_
  refine mJ_top (b2i_t h1) ?_
  refine mJ_if_eq 18 dX7_hintOf_5 rfl (fun c => absurd c (by decide)) (fun _ => ?_)
  refine mJ_iload_n dX7_hintOf_8 rfl ?_
  refine mJ_if_lt 18 dX7_hintOf_9 rfl (fun c => absurd c (by decide)) (fun _ => ?_)
  refine mJ_iload_n dX7_hintOf_12 rfl ?_
  refine mJ_bipush (v := 16) dX7_hintOf_13 rfl ?_
  refine mJ_icmp_le 22 dX7_hintOf_15 rfl (fun _ => ?_) (fun c => absurd c (by decide))
  refine mJ_iload_n dX7_hintOf_22 rfl ?_
  refine mJ_bipush (v := 8) dX7_hintOf_23 rfl ?_
  refine mJ_icmp_ge 38 dX7_hintOf_25 rfl (fun c => absurd c (by decide)) (fun _ => ?_)
  refine mJ_aload_n dX7_hintOf_28 rfl ?_
  refine mJ_get dX7_hintOf_29 f_X7_12 rfl rfl ?_
  refine mJ_iload_n dX7_hintOf_32 rfl ?_
  refine mJ_iload_n dX7_hintOf_33 rfl ?_
  refine mJ_cV2i dX7_hintOf_34 e_X5_hintValue n_X7_146 ⟨Nat.le_of_ble_eq_true rfl, Nat.le_of_ble_eq_true rfl⟩ rfl rfl (Nat.le_of_ble_eq_true rfl) (C_X5_hintValue) ?_
  exact mJ_iret dX7_hintOf_37 rfl (rfl) (rfl)
set_option maxHeartbeats 4000000 in
set_option maxRecDepth 100000 in
theorem C_X7_hintOf_5 {C W : aF} {o n : Nat} {RS SD XS YS OR : aF} {shn : Int32} {T1 : tT} {P1 : tP} {Od : tO} {T2 : tT} {P2 : tP} {h : Nat} (hh : h < 12) (h1 : q_hint C (nI h)) : mCt k_X7_hintOf [.ref 0, .int (nI h), .int 5] (cH C (W, nI o, nI n) (RS, SD, XS, YS, OR, shn) T1 P1 Od T2 P2) (some (.int (gH C (nI h) 5))) (cH C (W, nI o, nI n) (RS, SD, XS, YS, OR, shn) T1 P1 Od T2 P2) := by
  refine mCt_intro (plainFor_of_name rfl) (Nat.le_of_ble_eq_true rfl) (m_all rfl) (ls := [_, _, _, _]) rfl ?_
  refine mJ_aload_n dX7_hintOf_0 rfl ?_
  refine mJ_iload_n dX7_hintOf_1 rfl ?_
  refine mJ_cV1i dX7_hintOf_2 e_X7_isHint n_X7_140 ⟨Nat.le_of_ble_eq_true rfl, Nat.le_of_ble_eq_true rfl⟩ rfl rfl (Nat.le_of_ble_eq_true rfl) (C_X7_isHint) ?_
  refine mJ_top (b2i_t h1) ?_
  refine mJ_if_eq 18 dX7_hintOf_5 rfl (fun c => absurd c (by decide)) (fun _ => ?_)
  refine mJ_iload_n dX7_hintOf_8 rfl ?_
  refine mJ_if_lt 18 dX7_hintOf_9 rfl (fun c => absurd c (by decide)) (fun _ => ?_)
  refine mJ_iload_n dX7_hintOf_12 rfl ?_
  refine mJ_bipush (v := 16) dX7_hintOf_13 rfl ?_
  refine mJ_icmp_le 22 dX7_hintOf_15 rfl (fun _ => ?_) (fun c => absurd c (by decide))
  refine mJ_iload_n dX7_hintOf_22 rfl ?_
  refine mJ_bipush (v := 8) dX7_hintOf_23 rfl ?_
  refine mJ_icmp_ge 38 dX7_hintOf_25 rfl (fun c => absurd c (by decide)) (fun _ => ?_)
  refine mJ_aload_n dX7_hintOf_28 rfl ?_
  refine mJ_get dX7_hintOf_29 f_X7_12 rfl rfl ?_
  refine mJ_iload_n dX7_hintOf_32 rfl ?_
  refine mJ_iload_n dX7_hintOf_33 rfl ?_
  refine mJ_cV2i dX7_hintOf_34 e_X5_hintValue n_X7_146 ⟨Nat.le_of_ble_eq_true rfl, Nat.le_of_ble_eq_true rfl⟩ rfl rfl (Nat.le_of_ble_eq_true rfl) (C_X5_hintValue) ?_
  exact mJ_iret dX7_hintOf_37 rfl (rfl) (rfl)
set_option maxHeartbeats 4000000 in
set_option maxRecDepth 100000 in
theorem C_X7_hintOf_6 {C W : aF} {o n : Nat} {RS SD XS YS OR : aF} {shn : Int32} {T1 : tT} {P1 : tP} {Od : tO} {T2 : tT} {P2 : tP} {h : Nat} (hh : h < 12) (h1 : q_hint C (nI h)) : mCt k_X7_hintOf [.ref 0, .int (nI h), .int 6] (cH C (W, nI o, nI n) (RS, SD, XS, YS, OR, shn) T1 P1 Od T2 P2) (some (.int (gH C (nI h) 6))) (cH C (W, nI o, nI n) (RS, SD, XS, YS, OR, shn) T1 P1 Od T2 P2) := by
  refine mCt_intro (plainFor_of_name rfl) (Nat.le_of_ble_eq_true rfl) (m_all rfl) (ls := [_, _, _, _]) rfl ?_
  refine mJ_aload_n dX7_hintOf_0 rfl ?_
  refine mJ_iload_n dX7_hintOf_1 rfl ?_
  refine mJ_cV1i dX7_hintOf_2 e_X7_isHint n_X7_140 ⟨Nat.le_of_ble_eq_true rfl, Nat.le_of_ble_eq_true rfl⟩ rfl rfl (Nat.le_of_ble_eq_true rfl) (C_X7_isHint) ?_
  refine mJ_top (b2i_t h1) ?_
  refine mJ_if_eq 18 dX7_hintOf_5 rfl (fun c => absurd c (by decide)) (fun _ => ?_)
  refine mJ_iload_n dX7_hintOf_8 rfl ?_
  refine mJ_if_lt 18 dX7_hintOf_9 rfl (fun c => absurd c (by decide)) (fun _ => ?_)
  refine mJ_iload_n dX7_hintOf_12 rfl ?_
  refine mJ_bipush (v := 16) dX7_hintOf_13 rfl ?_
  refine mJ_icmp_le 22 dX7_hintOf_15 rfl (fun _ => ?_) (fun c => absurd c (by decide))
  refine mJ_iload_n dX7_hintOf_22 rfl ?_
  refine mJ_bipush (v := 8) dX7_hintOf_23 rfl ?_
  refine mJ_icmp_ge 38 dX7_hintOf_25 rfl (fun c => absurd c (by decide)) (fun _ => ?_)
  refine mJ_aload_n dX7_hintOf_28 rfl ?_
  refine mJ_get dX7_hintOf_29 f_X7_12 rfl rfl ?_
  refine mJ_iload_n dX7_hintOf_32 rfl ?_
  refine mJ_iload_n dX7_hintOf_33 rfl ?_
  refine mJ_cV2i dX7_hintOf_34 e_X5_hintValue n_X7_146 ⟨Nat.le_of_ble_eq_true rfl, Nat.le_of_ble_eq_true rfl⟩ rfl rfl (Nat.le_of_ble_eq_true rfl) (C_X5_hintValue) ?_
  exact mJ_iret dX7_hintOf_37 rfl (rfl) (rfl)
set_option maxHeartbeats 4000000 in
set_option maxRecDepth 100000 in
theorem C_X7_hintOf_7 {C W : aF} {o n : Nat} {RS SD XS YS OR : aF} {shn : Int32} {T1 : tT} {P1 : tP} {Od : tO} {T2 : tT} {P2 : tP} {h : Nat} (hh : h < 12) (h1 : q_hint C (nI h)) : mCt k_X7_hintOf [.ref 0, .int (nI h), .int 7] (cH C (W, nI o, nI n) (RS, SD, XS, YS, OR, shn) T1 P1 Od T2 P2) (some (.int (gH C (nI h) 7))) (cH C (W, nI o, nI n) (RS, SD, XS, YS, OR, shn) T1 P1 Od T2 P2) := by
  refine mCt_intro (plainFor_of_name rfl) (Nat.le_of_ble_eq_true rfl) (m_all rfl) (ls := [_, _, _, _]) rfl ?_
  refine mJ_aload_n dX7_hintOf_0 rfl ?_
  refine mJ_iload_n dX7_hintOf_1 rfl ?_
  refine mJ_cV1i dX7_hintOf_2 e_X7_isHint n_X7_140 ⟨Nat.le_of_ble_eq_true rfl, Nat.le_of_ble_eq_true rfl⟩ rfl rfl (Nat.le_of_ble_eq_true rfl) (C_X7_isHint) ?_
  refine mJ_top (b2i_t h1) ?_
  refine mJ_if_eq 18 dX7_hintOf_5 rfl (fun c => absurd c (by decide)) (fun _ => ?_)
  refine mJ_iload_n dX7_hintOf_8 rfl ?_
  refine mJ_if_lt 18 dX7_hintOf_9 rfl (fun c => absurd c (by decide)) (fun _ => ?_)
  refine mJ_iload_n dX7_hintOf_12 rfl ?_
  refine mJ_bipush (v := 16) dX7_hintOf_13 rfl ?_
  refine mJ_icmp_le 22 dX7_hintOf_15 rfl (fun _ => ?_) (fun c => absurd c (by decide))
  refine mJ_iload_n dX7_hintOf_22 rfl ?_
  refine mJ_bipush (v := 8) dX7_hintOf_23 rfl ?_
  refine mJ_icmp_ge 38 dX7_hintOf_25 rfl (fun c => absurd c (by decide)) (fun _ => ?_)
  refine mJ_aload_n dX7_hintOf_28 rfl ?_
  refine mJ_get dX7_hintOf_29 f_X7_12 rfl rfl ?_
  refine mJ_iload_n dX7_hintOf_32 rfl ?_
  refine mJ_iload_n dX7_hintOf_33 rfl ?_
  refine mJ_cV2i dX7_hintOf_34 e_X5_hintValue n_X7_146 ⟨Nat.le_of_ble_eq_true rfl, Nat.le_of_ble_eq_true rfl⟩ rfl rfl (Nat.le_of_ble_eq_true rfl) (C_X5_hintValue) ?_
  exact mJ_iret dX7_hintOf_37 rfl (rfl) (rfl)
set_option maxHeartbeats 4000000 in
set_option maxRecDepth 100000 in
theorem C_X7_hintOf_8 {C W : aF} {o n : Nat} {RS SD XS YS OR : aF} {shn : Int32} {T1 : tT} {P1 : tP} {Od : tO} {T2 : tT} {P2 : tP} {h : Nat} (hh : h < 12) (h1 : q_hint C (nI h)) : mCt k_X7_hintOf [.ref 0, .int (nI h), .int 8] (cH C (W, nI o, nI n) (RS, SD, XS, YS, OR, shn) T1 P1 Od T2 P2) (some (.int (RS h))) (cH C (W, nI o, nI n) (RS, SD, XS, YS, OR, shn) T1 P1 Od T2 P2) := by
  refine mCt_intro (plainFor_of_name rfl) (Nat.le_of_ble_eq_true rfl) (m_all rfl) (ls := [_, _, _, _]) rfl ?_
  refine mJ_aload_n dX7_hintOf_0 rfl ?_
  refine mJ_iload_n dX7_hintOf_1 rfl ?_
  refine mJ_cV1i dX7_hintOf_2 e_X7_isHint n_X7_140 ⟨Nat.le_of_ble_eq_true rfl, Nat.le_of_ble_eq_true rfl⟩ rfl rfl (Nat.le_of_ble_eq_true rfl) (C_X7_isHint) ?_
  refine mJ_top (b2i_t h1) ?_
  refine mJ_if_eq 18 dX7_hintOf_5 rfl (fun c => absurd c (by decide)) (fun _ => ?_)
  refine mJ_iload_n dX7_hintOf_8 rfl ?_
  refine mJ_if_lt 18 dX7_hintOf_9 rfl (fun c => absurd c (by decide)) (fun _ => ?_)
  refine mJ_iload_n dX7_hintOf_12 rfl ?_
  refine mJ_bipush (v := 16) dX7_hintOf_13 rfl ?_
  refine mJ_icmp_le 22 dX7_hintOf_15 rfl (fun _ => ?_) (fun c => absurd c (by decide))
  refine mJ_iload_n dX7_hintOf_22 rfl ?_
  refine mJ_bipush (v := 8) dX7_hintOf_23 rfl ?_
  refine mJ_icmp_ge 38 dX7_hintOf_25 rfl (fun _ => ?_) (fun c => absurd c (by decide))
  refine mJ_iload_n dX7_hintOf_38 rfl ?_
  refine mJ_bipush (v := 8) dX7_hintOf_39 rfl ?_
  refine mJ_icmp_ne 56 dX7_hintOf_41 rfl (fun c => absurd c (by decide)) (fun _ => ?_)
  refine mJ_aload_n dX7_hintOf_44 rfl ?_
  refine mJ_get dX7_hintOf_45 f_X7_26 rfl rfl ?_
  refine mJ_get dX7_hintOf_48 f_X7_156 rfl rfl ?_
  refine mJ_iload_n dX7_hintOf_51 rfl ?_
  refine mJ_cV1i dX7_hintOf_52 e_X3_get n_X7_160 ⟨Nat.le_of_ble_eq_true rfl, Nat.le_of_ble_eq_true rfl⟩ rfl rfl (Nat.le_of_ble_eq_true rfl) (C_X3_get rfl rfl (Nat.le_of_ble_eq_true rfl)) ?_
  refine mJ_top ((rg_in RS hh (by decide))) ?_
  exact mJ_iret dX7_hintOf_55 rfl (rfl) (rfl)
set_option maxHeartbeats 4000000 in
set_option maxRecDepth 100000 in
theorem C_X7_hintOf_15 {C W : aF} {o n : Nat} {RS SD XS YS OR : aF} {shn : Int32} {T1 : tT} {P1 : tP} {Od : tO} {T2 : tT} {P2 : tP} {h : Nat} (hh : h < 12) (h1 : q_hint C (nI h)) : mCt k_X7_hintOf [.ref 0, .int (nI h), .int 15] (cH C (W, nI o, nI n) (RS, SD, XS, YS, OR, shn) T1 P1 Od T2 P2) (some (.int (if gH C (nI h) 9 = -1 then -10004 else gH C (nI h) 9))) (cH C (W, nI o, nI n) (RS, SD, XS, YS, OR, shn) T1 P1 Od T2 P2) := by
  refine mCt_intro (plainFor_of_name rfl) (Nat.le_of_ble_eq_true rfl) (m_all rfl) (ls := [_, _, _, _]) rfl ?_
  refine mJ_aload_n dX7_hintOf_0 rfl ?_
  refine mJ_iload_n dX7_hintOf_1 rfl ?_
  refine mJ_cV1i dX7_hintOf_2 e_X7_isHint n_X7_140 ⟨Nat.le_of_ble_eq_true rfl, Nat.le_of_ble_eq_true rfl⟩ rfl rfl (Nat.le_of_ble_eq_true rfl) (C_X7_isHint) ?_
  refine mJ_top (b2i_t h1) ?_
  refine mJ_if_eq 18 dX7_hintOf_5 rfl (fun c => absurd c (by decide)) (fun _ => ?_)
  refine mJ_iload_n dX7_hintOf_8 rfl ?_
  refine mJ_if_lt 18 dX7_hintOf_9 rfl (fun c => absurd c (by decide)) (fun _ => ?_)
  refine mJ_iload_n dX7_hintOf_12 rfl ?_
  refine mJ_bipush (v := 16) dX7_hintOf_13 rfl ?_
  refine mJ_icmp_le 22 dX7_hintOf_15 rfl (fun _ => ?_) (fun c => absurd c (by decide))
  refine mJ_iload_n dX7_hintOf_22 rfl ?_
  refine mJ_bipush (v := 8) dX7_hintOf_23 rfl ?_
  refine mJ_icmp_ge 38 dX7_hintOf_25 rfl (fun _ => ?_) (fun c => absurd c (by decide))
  refine mJ_iload_n dX7_hintOf_38 rfl ?_
  refine mJ_bipush (v := 8) dX7_hintOf_39 rfl ?_
  refine mJ_icmp_ne 56 dX7_hintOf_41 rfl (fun _ => ?_) (fun c => absurd c (by decide))
  refine mJ_iload_n dX7_hintOf_56 rfl ?_
  refine mJ_bipush (v := 15) dX7_hintOf_57 rfl ?_
  refine mJ_icmp_ne 86 dX7_hintOf_59 rfl (fun c => absurd c (by decide)) (fun _ => ?_)
  refine mJ_aload_n dX7_hintOf_62 rfl ?_
  refine mJ_get dX7_hintOf_63 f_X7_12 rfl rfl ?_
  refine mJ_iload_n dX7_hintOf_66 rfl ?_
  refine mJ_bipush (v := 9) dX7_hintOf_67 rfl ?_
  refine mJ_cV2i dX7_hintOf_69 e_X5_hintValue n_X7_146 ⟨Nat.le_of_ble_eq_true rfl, Nat.le_of_ble_eq_true rfl⟩ rfl rfl (Nat.le_of_ble_eq_true rfl) (C_X5_hintValue) ?_
  refine mJ_istore_n dX7_hintOf_72 (Nat.le_of_ble_eq_true rfl) (ls2 := [_, _, _, _]) rfl ?_
  refine mJ_iload_n dX7_hintOf_73 rfl ?_
  refine mJ_iconst (v := (-1)) dX7_hintOf_74 rfl ?_
  refine mJ_icmp_ne 84 dX7_hintOf_75 rfl (fun c_75 => ?_) (fun c_75 => ?_)
  · refine mJ_iload_n dX7_hintOf_84 rfl ?_
    exact mJ_iret dX7_hintOf_85 rfl (by rw [if_neg c_75]) (rfl)
  · refine mJ_sipush (v := (-10004)) dX7_hintOf_78 rfl ?_
    refine mJ_goto 85 dX7_hintOf_81 rfl ?_
    exact mJ_iret dX7_hintOf_85 rfl (by rw [if_pos c_75]) (rfl)
set_option maxHeartbeats 4000000 in
set_option maxRecDepth 100000 in
theorem C_X7_hintOf_16 {C W : aF} {o n : Nat} {RS SD XS YS OR : aF} {shn : Int32} {T1 : tT} {P1 : tP} {Od : tO} {T2 : tT} {P2 : tP} {h : Nat} (hh : h < 12) (h1 : q_hint C (nI h)) {nH : Nat} (h5 : gG C 5 = nI nH) (hl : nH ≤ 12) : mCt k_X7_hintOf [.ref 0, .int (nI h), .int 16] (cH C (W, nI o, nI n) (RS, SD, XS, YS, OR, shn) T1 P1 Od T2 P2) (some (.int (iif (q_open C (nI h)) (nI (tn C nH (nI h))) (-10004)))) (cH C (W, nI o, nI n) (RS, SD, XS, YS, OR, shn) T1 P1 Od T2 P2) := by
  refine mCt_intro (plainFor_of_name rfl) (Nat.le_of_ble_eq_true rfl) (m_all rfl) (ls := [_, _, _, _]) rfl ?_
  refine mJ_aload_n dX7_hintOf_0 rfl ?_
  refine mJ_iload_n dX7_hintOf_1 rfl ?_
  refine mJ_cV1i dX7_hintOf_2 e_X7_isHint n_X7_140 ⟨Nat.le_of_ble_eq_true rfl, Nat.le_of_ble_eq_true rfl⟩ rfl rfl (Nat.le_of_ble_eq_true rfl) (C_X7_isHint) ?_
  refine mJ_top (b2i_t h1) ?_
  refine mJ_if_eq 18 dX7_hintOf_5 rfl (fun c => absurd c (by decide)) (fun _ => ?_)
  refine mJ_iload_n dX7_hintOf_8 rfl ?_
  refine mJ_if_lt 18 dX7_hintOf_9 rfl (fun c => absurd c (by decide)) (fun _ => ?_)
  refine mJ_iload_n dX7_hintOf_12 rfl ?_
  refine mJ_bipush (v := 16) dX7_hintOf_13 rfl ?_
  refine mJ_icmp_le 22 dX7_hintOf_15 rfl (fun _ => ?_) (fun c => absurd c (by decide))
  refine mJ_iload_n dX7_hintOf_22 rfl ?_
  refine mJ_bipush (v := 8) dX7_hintOf_23 rfl ?_
  refine mJ_icmp_ge 38 dX7_hintOf_25 rfl (fun _ => ?_) (fun c => absurd c (by decide))
  refine mJ_iload_n dX7_hintOf_38 rfl ?_
  refine mJ_bipush (v := 8) dX7_hintOf_39 rfl ?_
  refine mJ_icmp_ne 56 dX7_hintOf_41 rfl (fun _ => ?_) (fun c => absurd c (by decide))
  refine mJ_iload_n dX7_hintOf_56 rfl ?_
  refine mJ_bipush (v := 15) dX7_hintOf_57 rfl ?_
  refine mJ_icmp_ne 86 dX7_hintOf_59 rfl (fun _ => ?_) (fun c => absurd c (by decide))
  refine mJ_iload_n dX7_hintOf_86 rfl ?_
  refine mJ_bipush (v := 16) dX7_hintOf_87 rfl ?_
  refine mJ_icmp_ne 118 dX7_hintOf_89 rfl (fun c => absurd c (by decide)) (fun _ => ?_)
  refine mJ_aload_n dX7_hintOf_92 rfl ?_
  refine mJ_get dX7_hintOf_93 f_X7_12 rfl rfl ?_
  refine mJ_iload_n dX7_hintOf_96 rfl ?_
  refine mJ_cV1i dX7_hintOf_97 e_X5_isOpen n_X7_149 ⟨Nat.le_of_ble_eq_true rfl, Nat.le_of_ble_eq_true rfl⟩ rfl rfl (Nat.le_of_ble_eq_true rfl) (C_X5_isOpen) ?_
  refine mJ_b2i (fun b_97 => ?_) (fun b_97 => ?_)
  · refine mJ_if_eq 114 dX7_hintOf_100 rfl (fun c => absurd c (by decide)) (fun _ => ?_)
    refine mJ_aload_n dX7_hintOf_103 rfl ?_
    refine mJ_get dX7_hintOf_104 f_X7_12 rfl rfl ?_
    refine mJ_iload_n dX7_hintOf_107 rfl ?_
    refine mJ_cV1i dX7_hintOf_108 e_X5_turn n_X7_169 ⟨Nat.le_of_ble_eq_true rfl, Nat.le_of_ble_eq_true rfl⟩ rfl rfl (Nat.le_of_ble_eq_true rfl) (C_X5_turn h5 hl) ?_
    refine mJ_goto 117 dX7_hintOf_111 rfl ?_
    exact mJ_iret dX7_hintOf_117 rfl (by rw [iif_t b_97]; rfl) (rfl)
  · refine mJ_if_eq 114 dX7_hintOf_100 rfl (fun _ => ?_) (fun c => absurd c (by decide))
    refine mJ_sipush (v := (-10004)) dX7_hintOf_114 rfl ?_
    exact mJ_iret dX7_hintOf_117 rfl (by rw [iif_f b_97]) (rfl)
set_option maxHeartbeats 4000000 in
set_option maxRecDepth 100000 in
theorem C_X7_hintOf_9 {C W : aF} {o n : Nat} {RS SD XS YS OR : aF} {shn : Int32} {T1 : tT} {P1 : tP} {Od : tO} {T2 : tT} {P2 : tP} {s : Int32} {h : Nat} (hh : h < 12) (h1 : q_hint C (nI h)) (hS : RS h = 0) (hs : SD h = s) : mCt k_X7_hintOf [.ref 0, .int (nI h), .int 9] (cH C (W, nI o, nI n) (RS, SD, XS, YS, OR, shn) T1 P1 Od T2 P2) (some (.int s)) (cH C (W, nI o, nI n) (RS, SD, XS, YS, OR, shn) T1 P1 Od T2 (f_P C (nI h) s (gG C 2) (gG C 3))) := by
  refine mCt_intro (plainFor_of_name rfl) (Nat.le_of_ble_eq_true rfl) (m_all rfl) (ls := [_, _, _, _]) rfl ?_
  refine mJ_aload_n dX7_hintOf_0 rfl ?_
  refine mJ_iload_n dX7_hintOf_1 rfl ?_
  refine mJ_cV1i dX7_hintOf_2 e_X7_isHint n_X7_140 ⟨Nat.le_of_ble_eq_true rfl, Nat.le_of_ble_eq_true rfl⟩ rfl rfl (Nat.le_of_ble_eq_true rfl) (C_X7_isHint) ?_
  refine mJ_top (b2i_t h1) ?_
  refine mJ_if_eq 18 dX7_hintOf_5 rfl (fun c => absurd c (by decide)) (fun _ => ?_)
  refine mJ_iload_n dX7_hintOf_8 rfl ?_
  refine mJ_if_lt 18 dX7_hintOf_9 rfl (fun c => absurd c (by decide)) (fun _ => ?_)
  refine mJ_iload_n dX7_hintOf_12 rfl ?_
  refine mJ_bipush (v := 16) dX7_hintOf_13 rfl ?_
  refine mJ_icmp_le 22 dX7_hintOf_15 rfl (fun _ => ?_) (fun c => absurd c (by decide))
  refine mJ_iload_n dX7_hintOf_22 rfl ?_
  refine mJ_bipush (v := 8) dX7_hintOf_23 rfl ?_
  refine mJ_icmp_ge 38 dX7_hintOf_25 rfl (fun _ => ?_) (fun c => absurd c (by decide))
  refine mJ_iload_n dX7_hintOf_38 rfl ?_
  refine mJ_bipush (v := 8) dX7_hintOf_39 rfl ?_
  refine mJ_icmp_ne 56 dX7_hintOf_41 rfl (fun _ => ?_) (fun c => absurd c (by decide))
  refine mJ_iload_n dX7_hintOf_56 rfl ?_
  refine mJ_bipush (v := 15) dX7_hintOf_57 rfl ?_
  refine mJ_icmp_ne 86 dX7_hintOf_59 rfl (fun _ => ?_) (fun c => absurd c (by decide))
  refine mJ_iload_n dX7_hintOf_86 rfl ?_
  refine mJ_bipush (v := 16) dX7_hintOf_87 rfl ?_
  refine mJ_icmp_ne 118 dX7_hintOf_89 rfl (fun _ => ?_) (fun c => absurd c (by decide))
  refine mJ_aload_n dX7_hintOf_118 rfl ?_
  refine mJ_get dX7_hintOf_119 f_X7_26 rfl rfl ?_
  refine mJ_get dX7_hintOf_122 f_X7_156 rfl rfl ?_
  refine mJ_iload_n dX7_hintOf_125 rfl ?_
  refine mJ_cV1i dX7_hintOf_126 e_X3_get n_X7_160 ⟨Nat.le_of_ble_eq_true rfl, Nat.le_of_ble_eq_true rfl⟩ rfl rfl (Nat.le_of_ble_eq_true rfl) (C_X3_get rfl rfl (Nat.le_of_ble_eq_true rfl)) ?_
  refine mJ_top (((rg_in RS hh (by decide))).trans hS) ?_
  refine mJ_if_ne 141 dX7_hintOf_129 rfl (fun c_129 => False.elim (by exact c_129 rfl)) (fun c_129 => ?_)
  refine mJ_aload_n dX7_hintOf_132 rfl ?_
  refine mJ_iload_n dX7_hintOf_133 rfl ?_
  refine mJ_iload_n dX7_hintOf_134 rfl ?_
  refine mJ_cV2i dX7_hintOf_135 e_X7_shownValue n_X7_172 ⟨Nat.le_of_ble_eq_true rfl, Nat.le_of_ble_eq_true rfl⟩ rfl rfl (Nat.le_of_ble_eq_true rfl) (C_X7_shownValue_9 hh hs) ?_
  refine mJ_goto 144 dX7_hintOf_138 rfl ?_
  exact mJ_iret dX7_hintOf_144 rfl (rfl) (rfl)
set_option maxHeartbeats 4000000 in
set_option maxRecDepth 100000 in
theorem C_X7_hintOf_9_n {C W : aF} {o n : Nat} {RS SD XS YS OR : aF} {shn : Int32} {T1 : tT} {P1 : tP} {Od : tO} {T2 : tT} {P2 : tP} {h : Nat} (hh : h < 12) (h1 : q_hint C (nI h)) (hS : ¬ RS h = 0) : mCt k_X7_hintOf [.ref 0, .int (nI h), .int 9] (cH C (W, nI o, nI n) (RS, SD, XS, YS, OR, shn) T1 P1 Od T2 P2) (some (.int (-10004))) (cH C (W, nI o, nI n) (RS, SD, XS, YS, OR, shn) T1 P1 Od T2 P2) := by
  refine mCt_intro (plainFor_of_name rfl) (Nat.le_of_ble_eq_true rfl) (m_all rfl) (ls := [_, _, _, _]) rfl ?_
  refine mJ_aload_n dX7_hintOf_0 rfl ?_
  refine mJ_iload_n dX7_hintOf_1 rfl ?_
  refine mJ_cV1i dX7_hintOf_2 e_X7_isHint n_X7_140 ⟨Nat.le_of_ble_eq_true rfl, Nat.le_of_ble_eq_true rfl⟩ rfl rfl (Nat.le_of_ble_eq_true rfl) (C_X7_isHint) ?_
  refine mJ_top (b2i_t h1) ?_
  refine mJ_if_eq 18 dX7_hintOf_5 rfl (fun c => absurd c (by decide)) (fun _ => ?_)
  refine mJ_iload_n dX7_hintOf_8 rfl ?_
  refine mJ_if_lt 18 dX7_hintOf_9 rfl (fun c => absurd c (by decide)) (fun _ => ?_)
  refine mJ_iload_n dX7_hintOf_12 rfl ?_
  refine mJ_bipush (v := 16) dX7_hintOf_13 rfl ?_
  refine mJ_icmp_le 22 dX7_hintOf_15 rfl (fun _ => ?_) (fun c => absurd c (by decide))
  refine mJ_iload_n dX7_hintOf_22 rfl ?_
  refine mJ_bipush (v := 8) dX7_hintOf_23 rfl ?_
  refine mJ_icmp_ge 38 dX7_hintOf_25 rfl (fun _ => ?_) (fun c => absurd c (by decide))
  refine mJ_iload_n dX7_hintOf_38 rfl ?_
  refine mJ_bipush (v := 8) dX7_hintOf_39 rfl ?_
  refine mJ_icmp_ne 56 dX7_hintOf_41 rfl (fun _ => ?_) (fun c => absurd c (by decide))
  refine mJ_iload_n dX7_hintOf_56 rfl ?_
  refine mJ_bipush (v := 15) dX7_hintOf_57 rfl ?_
  refine mJ_icmp_ne 86 dX7_hintOf_59 rfl (fun _ => ?_) (fun c => absurd c (by decide))
  refine mJ_iload_n dX7_hintOf_86 rfl ?_
  refine mJ_bipush (v := 16) dX7_hintOf_87 rfl ?_
  refine mJ_icmp_ne 118 dX7_hintOf_89 rfl (fun _ => ?_) (fun c => absurd c (by decide))
  refine mJ_aload_n dX7_hintOf_118 rfl ?_
  refine mJ_get dX7_hintOf_119 f_X7_26 rfl rfl ?_
  refine mJ_get dX7_hintOf_122 f_X7_156 rfl rfl ?_
  refine mJ_iload_n dX7_hintOf_125 rfl ?_
  refine mJ_cV1i dX7_hintOf_126 e_X3_get n_X7_160 ⟨Nat.le_of_ble_eq_true rfl, Nat.le_of_ble_eq_true rfl⟩ rfl rfl (Nat.le_of_ble_eq_true rfl) (C_X3_get rfl rfl (Nat.le_of_ble_eq_true rfl)) ?_
  refine mJ_top ((rg_in RS hh (by decide))) ?_
  refine mJ_if_ne 141 dX7_hintOf_129 rfl (fun c_129 => ?_) (fun c_129 => False.elim (by exact hS c_129))
  refine mJ_sipush (v := (-10004)) dX7_hintOf_141 rfl ?_
  exact mJ_iret dX7_hintOf_144 rfl (rfl) (rfl)
set_option maxHeartbeats 4000000 in
set_option maxRecDepth 100000 in
theorem C_X7_hintOf_10 {C W : aF} {o n : Nat} {RS SD XS YS OR : aF} {shn : Int32} {T1 : tT} {P1 : tP} {Od : tO} {T2 : tT} {P2 : tP} {s : Int32} {h : Nat} (hh : h < 12) (h1 : q_hint C (nI h)) (hS : RS h = 0) (hs : SD h = s) : mCt k_X7_hintOf [.ref 0, .int (nI h), .int 10] (cH C (W, nI o, nI n) (RS, SD, XS, YS, OR, shn) T1 P1 Od T2 P2) (some (.int (f_x C (nI h) s (gG C 2) (gG C 3)))) (cH C (W, nI o, nI n) (RS, SD, XS, YS, OR, shn) T1 P1 Od T2 (f_P C (nI h) s (gG C 2) (gG C 3))) := by
  refine mCt_intro (plainFor_of_name rfl) (Nat.le_of_ble_eq_true rfl) (m_all rfl) (ls := [_, _, _, _]) rfl ?_
  refine mJ_aload_n dX7_hintOf_0 rfl ?_
  refine mJ_iload_n dX7_hintOf_1 rfl ?_
  refine mJ_cV1i dX7_hintOf_2 e_X7_isHint n_X7_140 ⟨Nat.le_of_ble_eq_true rfl, Nat.le_of_ble_eq_true rfl⟩ rfl rfl (Nat.le_of_ble_eq_true rfl) (C_X7_isHint) ?_
  refine mJ_top (b2i_t h1) ?_
  refine mJ_if_eq 18 dX7_hintOf_5 rfl (fun c => absurd c (by decide)) (fun _ => ?_)
  refine mJ_iload_n dX7_hintOf_8 rfl ?_
  refine mJ_if_lt 18 dX7_hintOf_9 rfl (fun c => absurd c (by decide)) (fun _ => ?_)
  refine mJ_iload_n dX7_hintOf_12 rfl ?_
  refine mJ_bipush (v := 16) dX7_hintOf_13 rfl ?_
  refine mJ_icmp_le 22 dX7_hintOf_15 rfl (fun _ => ?_) (fun c => absurd c (by decide))
  refine mJ_iload_n dX7_hintOf_22 rfl ?_
  refine mJ_bipush (v := 8) dX7_hintOf_23 rfl ?_
  refine mJ_icmp_ge 38 dX7_hintOf_25 rfl (fun _ => ?_) (fun c => absurd c (by decide))
  refine mJ_iload_n dX7_hintOf_38 rfl ?_
  refine mJ_bipush (v := 8) dX7_hintOf_39 rfl ?_
  refine mJ_icmp_ne 56 dX7_hintOf_41 rfl (fun _ => ?_) (fun c => absurd c (by decide))
  refine mJ_iload_n dX7_hintOf_56 rfl ?_
  refine mJ_bipush (v := 15) dX7_hintOf_57 rfl ?_
  refine mJ_icmp_ne 86 dX7_hintOf_59 rfl (fun _ => ?_) (fun c => absurd c (by decide))
  refine mJ_iload_n dX7_hintOf_86 rfl ?_
  refine mJ_bipush (v := 16) dX7_hintOf_87 rfl ?_
  refine mJ_icmp_ne 118 dX7_hintOf_89 rfl (fun _ => ?_) (fun c => absurd c (by decide))
  refine mJ_aload_n dX7_hintOf_118 rfl ?_
  refine mJ_get dX7_hintOf_119 f_X7_26 rfl rfl ?_
  refine mJ_get dX7_hintOf_122 f_X7_156 rfl rfl ?_
  refine mJ_iload_n dX7_hintOf_125 rfl ?_
  refine mJ_cV1i dX7_hintOf_126 e_X3_get n_X7_160 ⟨Nat.le_of_ble_eq_true rfl, Nat.le_of_ble_eq_true rfl⟩ rfl rfl (Nat.le_of_ble_eq_true rfl) (C_X3_get rfl rfl (Nat.le_of_ble_eq_true rfl)) ?_
  refine mJ_top (((rg_in RS hh (by decide))).trans hS) ?_
  refine mJ_if_ne 141 dX7_hintOf_129 rfl (fun c_129 => False.elim (by exact c_129 rfl)) (fun c_129 => ?_)
  refine mJ_aload_n dX7_hintOf_132 rfl ?_
  refine mJ_iload_n dX7_hintOf_133 rfl ?_
  refine mJ_iload_n dX7_hintOf_134 rfl ?_
  refine mJ_cV2i dX7_hintOf_135 e_X7_shownValue n_X7_172 ⟨Nat.le_of_ble_eq_true rfl, Nat.le_of_ble_eq_true rfl⟩ rfl rfl (Nat.le_of_ble_eq_true rfl) (C_X7_shownValue_10 hh hs) ?_
  refine mJ_goto 144 dX7_hintOf_138 rfl ?_
  exact mJ_iret dX7_hintOf_144 rfl (rfl) (rfl)
set_option maxHeartbeats 4000000 in
set_option maxRecDepth 100000 in
theorem C_X7_hintOf_10_n {C W : aF} {o n : Nat} {RS SD XS YS OR : aF} {shn : Int32} {T1 : tT} {P1 : tP} {Od : tO} {T2 : tT} {P2 : tP} {h : Nat} (hh : h < 12) (h1 : q_hint C (nI h)) (hS : ¬ RS h = 0) : mCt k_X7_hintOf [.ref 0, .int (nI h), .int 10] (cH C (W, nI o, nI n) (RS, SD, XS, YS, OR, shn) T1 P1 Od T2 P2) (some (.int (-10004))) (cH C (W, nI o, nI n) (RS, SD, XS, YS, OR, shn) T1 P1 Od T2 P2) := by
  refine mCt_intro (plainFor_of_name rfl) (Nat.le_of_ble_eq_true rfl) (m_all rfl) (ls := [_, _, _, _]) rfl ?_
  refine mJ_aload_n dX7_hintOf_0 rfl ?_
  refine mJ_iload_n dX7_hintOf_1 rfl ?_
  refine mJ_cV1i dX7_hintOf_2 e_X7_isHint n_X7_140 ⟨Nat.le_of_ble_eq_true rfl, Nat.le_of_ble_eq_true rfl⟩ rfl rfl (Nat.le_of_ble_eq_true rfl) (C_X7_isHint) ?_
  refine mJ_top (b2i_t h1) ?_
  refine mJ_if_eq 18 dX7_hintOf_5 rfl (fun c => absurd c (by decide)) (fun _ => ?_)
  refine mJ_iload_n dX7_hintOf_8 rfl ?_
  refine mJ_if_lt 18 dX7_hintOf_9 rfl (fun c => absurd c (by decide)) (fun _ => ?_)
  refine mJ_iload_n dX7_hintOf_12 rfl ?_
  refine mJ_bipush (v := 16) dX7_hintOf_13 rfl ?_
  refine mJ_icmp_le 22 dX7_hintOf_15 rfl (fun _ => ?_) (fun c => absurd c (by decide))
  refine mJ_iload_n dX7_hintOf_22 rfl ?_
  refine mJ_bipush (v := 8) dX7_hintOf_23 rfl ?_
  refine mJ_icmp_ge 38 dX7_hintOf_25 rfl (fun _ => ?_) (fun c => absurd c (by decide))
  refine mJ_iload_n dX7_hintOf_38 rfl ?_
  refine mJ_bipush (v := 8) dX7_hintOf_39 rfl ?_
  refine mJ_icmp_ne 56 dX7_hintOf_41 rfl (fun _ => ?_) (fun c => absurd c (by decide))
  refine mJ_iload_n dX7_hintOf_56 rfl ?_
  refine mJ_bipush (v := 15) dX7_hintOf_57 rfl ?_
  refine mJ_icmp_ne 86 dX7_hintOf_59 rfl (fun _ => ?_) (fun c => absurd c (by decide))
  refine mJ_iload_n dX7_hintOf_86 rfl ?_
  refine mJ_bipush (v := 16) dX7_hintOf_87 rfl ?_
  refine mJ_icmp_ne 118 dX7_hintOf_89 rfl (fun _ => ?_) (fun c => absurd c (by decide))
  refine mJ_aload_n dX7_hintOf_118 rfl ?_
  refine mJ_get dX7_hintOf_119 f_X7_26 rfl rfl ?_
  refine mJ_get dX7_hintOf_122 f_X7_156 rfl rfl ?_
  refine mJ_iload_n dX7_hintOf_125 rfl ?_
  refine mJ_cV1i dX7_hintOf_126 e_X3_get n_X7_160 ⟨Nat.le_of_ble_eq_true rfl, Nat.le_of_ble_eq_true rfl⟩ rfl rfl (Nat.le_of_ble_eq_true rfl) (C_X3_get rfl rfl (Nat.le_of_ble_eq_true rfl)) ?_
  refine mJ_top ((rg_in RS hh (by decide))) ?_
  refine mJ_if_ne 141 dX7_hintOf_129 rfl (fun c_129 => ?_) (fun c_129 => False.elim (by exact hS c_129))
  refine mJ_sipush (v := (-10004)) dX7_hintOf_141 rfl ?_
  exact mJ_iret dX7_hintOf_144 rfl (rfl) (rfl)
set_option maxHeartbeats 4000000 in
set_option maxRecDepth 100000 in
theorem C_X7_hintOf_11 {C W : aF} {o n : Nat} {RS SD XS YS OR : aF} {shn : Int32} {T1 : tT} {P1 : tP} {Od : tO} {T2 : tT} {P2 : tP} {s : Int32} {h : Nat} (hh : h < 12) (h1 : q_hint C (nI h)) (hS : RS h = 0) (hs : SD h = s) : mCt k_X7_hintOf [.ref 0, .int (nI h), .int 11] (cH C (W, nI o, nI n) (RS, SD, XS, YS, OR, shn) T1 P1 Od T2 P2) (some (.int (f_y C (nI h) s (gG C 2) (gG C 3)))) (cH C (W, nI o, nI n) (RS, SD, XS, YS, OR, shn) T1 P1 Od T2 (f_P C (nI h) s (gG C 2) (gG C 3))) := by
  refine mCt_intro (plainFor_of_name rfl) (Nat.le_of_ble_eq_true rfl) (m_all rfl) (ls := [_, _, _, _]) rfl ?_
  refine mJ_aload_n dX7_hintOf_0 rfl ?_
  refine mJ_iload_n dX7_hintOf_1 rfl ?_
  refine mJ_cV1i dX7_hintOf_2 e_X7_isHint n_X7_140 ⟨Nat.le_of_ble_eq_true rfl, Nat.le_of_ble_eq_true rfl⟩ rfl rfl (Nat.le_of_ble_eq_true rfl) (C_X7_isHint) ?_
  refine mJ_top (b2i_t h1) ?_
  refine mJ_if_eq 18 dX7_hintOf_5 rfl (fun c => absurd c (by decide)) (fun _ => ?_)
  refine mJ_iload_n dX7_hintOf_8 rfl ?_
  refine mJ_if_lt 18 dX7_hintOf_9 rfl (fun c => absurd c (by decide)) (fun _ => ?_)
  refine mJ_iload_n dX7_hintOf_12 rfl ?_
  refine mJ_bipush (v := 16) dX7_hintOf_13 rfl ?_
  refine mJ_icmp_le 22 dX7_hintOf_15 rfl (fun _ => ?_) (fun c => absurd c (by decide))
  refine mJ_iload_n dX7_hintOf_22 rfl ?_
  refine mJ_bipush (v := 8) dX7_hintOf_23 rfl ?_
  refine mJ_icmp_ge 38 dX7_hintOf_25 rfl (fun _ => ?_) (fun c => absurd c (by decide))
  refine mJ_iload_n dX7_hintOf_38 rfl ?_
  refine mJ_bipush (v := 8) dX7_hintOf_39 rfl ?_
  refine mJ_icmp_ne 56 dX7_hintOf_41 rfl (fun _ => ?_) (fun c => absurd c (by decide))
  refine mJ_iload_n dX7_hintOf_56 rfl ?_
  refine mJ_bipush (v := 15) dX7_hintOf_57 rfl ?_
  refine mJ_icmp_ne 86 dX7_hintOf_59 rfl (fun _ => ?_) (fun c => absurd c (by decide))
  refine mJ_iload_n dX7_hintOf_86 rfl ?_
  refine mJ_bipush (v := 16) dX7_hintOf_87 rfl ?_
  refine mJ_icmp_ne 118 dX7_hintOf_89 rfl (fun _ => ?_) (fun c => absurd c (by decide))
  refine mJ_aload_n dX7_hintOf_118 rfl ?_
  refine mJ_get dX7_hintOf_119 f_X7_26 rfl rfl ?_
  refine mJ_get dX7_hintOf_122 f_X7_156 rfl rfl ?_
  refine mJ_iload_n dX7_hintOf_125 rfl ?_
  refine mJ_cV1i dX7_hintOf_126 e_X3_get n_X7_160 ⟨Nat.le_of_ble_eq_true rfl, Nat.le_of_ble_eq_true rfl⟩ rfl rfl (Nat.le_of_ble_eq_true rfl) (C_X3_get rfl rfl (Nat.le_of_ble_eq_true rfl)) ?_
  refine mJ_top (((rg_in RS hh (by decide))).trans hS) ?_
  refine mJ_if_ne 141 dX7_hintOf_129 rfl (fun c_129 => False.elim (by exact c_129 rfl)) (fun c_129 => ?_)
  refine mJ_aload_n dX7_hintOf_132 rfl ?_
  refine mJ_iload_n dX7_hintOf_133 rfl ?_
  refine mJ_iload_n dX7_hintOf_134 rfl ?_
  refine mJ_cV2i dX7_hintOf_135 e_X7_shownValue n_X7_172 ⟨Nat.le_of_ble_eq_true rfl, Nat.le_of_ble_eq_true rfl⟩ rfl rfl (Nat.le_of_ble_eq_true rfl) (C_X7_shownValue_11 hh hs) ?_
  refine mJ_goto 144 dX7_hintOf_138 rfl ?_
  exact mJ_iret dX7_hintOf_144 rfl (rfl) (rfl)
set_option maxHeartbeats 4000000 in
set_option maxRecDepth 100000 in
theorem C_X7_hintOf_11_n {C W : aF} {o n : Nat} {RS SD XS YS OR : aF} {shn : Int32} {T1 : tT} {P1 : tP} {Od : tO} {T2 : tT} {P2 : tP} {h : Nat} (hh : h < 12) (h1 : q_hint C (nI h)) (hS : ¬ RS h = 0) : mCt k_X7_hintOf [.ref 0, .int (nI h), .int 11] (cH C (W, nI o, nI n) (RS, SD, XS, YS, OR, shn) T1 P1 Od T2 P2) (some (.int (-10004))) (cH C (W, nI o, nI n) (RS, SD, XS, YS, OR, shn) T1 P1 Od T2 P2) := by
  refine mCt_intro (plainFor_of_name rfl) (Nat.le_of_ble_eq_true rfl) (m_all rfl) (ls := [_, _, _, _]) rfl ?_
  refine mJ_aload_n dX7_hintOf_0 rfl ?_
  refine mJ_iload_n dX7_hintOf_1 rfl ?_
  refine mJ_cV1i dX7_hintOf_2 e_X7_isHint n_X7_140 ⟨Nat.le_of_ble_eq_true rfl, Nat.le_of_ble_eq_true rfl⟩ rfl rfl (Nat.le_of_ble_eq_true rfl) (C_X7_isHint) ?_
  refine mJ_top (b2i_t h1) ?_
  refine mJ_if_eq 18 dX7_hintOf_5 rfl (fun c => absurd c (by decide)) (fun _ => ?_)
  refine mJ_iload_n dX7_hintOf_8 rfl ?_
  refine mJ_if_lt 18 dX7_hintOf_9 rfl (fun c => absurd c (by decide)) (fun _ => ?_)
  refine mJ_iload_n dX7_hintOf_12 rfl ?_
  refine mJ_bipush (v := 16) dX7_hintOf_13 rfl ?_
  refine mJ_icmp_le 22 dX7_hintOf_15 rfl (fun _ => ?_) (fun c => absurd c (by decide))
  refine mJ_iload_n dX7_hintOf_22 rfl ?_
  refine mJ_bipush (v := 8) dX7_hintOf_23 rfl ?_
  refine mJ_icmp_ge 38 dX7_hintOf_25 rfl (fun _ => ?_) (fun c => absurd c (by decide))
  refine mJ_iload_n dX7_hintOf_38 rfl ?_
  refine mJ_bipush (v := 8) dX7_hintOf_39 rfl ?_
  refine mJ_icmp_ne 56 dX7_hintOf_41 rfl (fun _ => ?_) (fun c => absurd c (by decide))
  refine mJ_iload_n dX7_hintOf_56 rfl ?_
  refine mJ_bipush (v := 15) dX7_hintOf_57 rfl ?_
  refine mJ_icmp_ne 86 dX7_hintOf_59 rfl (fun _ => ?_) (fun c => absurd c (by decide))
  refine mJ_iload_n dX7_hintOf_86 rfl ?_
  refine mJ_bipush (v := 16) dX7_hintOf_87 rfl ?_
  refine mJ_icmp_ne 118 dX7_hintOf_89 rfl (fun _ => ?_) (fun c => absurd c (by decide))
  refine mJ_aload_n dX7_hintOf_118 rfl ?_
  refine mJ_get dX7_hintOf_119 f_X7_26 rfl rfl ?_
  refine mJ_get dX7_hintOf_122 f_X7_156 rfl rfl ?_
  refine mJ_iload_n dX7_hintOf_125 rfl ?_
  refine mJ_cV1i dX7_hintOf_126 e_X3_get n_X7_160 ⟨Nat.le_of_ble_eq_true rfl, Nat.le_of_ble_eq_true rfl⟩ rfl rfl (Nat.le_of_ble_eq_true rfl) (C_X3_get rfl rfl (Nat.le_of_ble_eq_true rfl)) ?_
  refine mJ_top ((rg_in RS hh (by decide))) ?_
  refine mJ_if_ne 141 dX7_hintOf_129 rfl (fun c_129 => ?_) (fun c_129 => False.elim (by exact hS c_129))
  refine mJ_sipush (v := (-10004)) dX7_hintOf_141 rfl ?_
  exact mJ_iret dX7_hintOf_144 rfl (rfl) (rfl)
set_option maxHeartbeats 4000000 in
set_option maxRecDepth 100000 in
theorem C_X7_hintOf_12 {C W : aF} {o n : Nat} {RS SD XS YS OR : aF} {shn : Int32} {T1 : tT} {P1 : tP} {Od : tO} {T2 : tT} {P2 : tP} {s : Int32} {h : Nat} (hh : h < 12) (h1 : q_hint C (nI h)) (hS : RS h = 0) (hs : SD h = s) : mCt k_X7_hintOf [.ref 0, .int (nI h), .int 12] (cH C (W, nI o, nI n) (RS, SD, XS, YS, OR, shn) T1 P1 Od T2 P2) (some (.int (f_arr C (nI h) s (gG C 2) (gG C 3)))) (cH C (W, nI o, nI n) (RS, SD, XS, YS, OR, shn) T1 P1 Od T2 (f_P C (nI h) s (gG C 2) (gG C 3))) := by
  refine mCt_intro (plainFor_of_name rfl) (Nat.le_of_ble_eq_true rfl) (m_all rfl) (ls := [_, _, _, _]) rfl ?_
  refine mJ_aload_n dX7_hintOf_0 rfl ?_
  refine mJ_iload_n dX7_hintOf_1 rfl ?_
  refine mJ_cV1i dX7_hintOf_2 e_X7_isHint n_X7_140 ⟨Nat.le_of_ble_eq_true rfl, Nat.le_of_ble_eq_true rfl⟩ rfl rfl (Nat.le_of_ble_eq_true rfl) (C_X7_isHint) ?_
  refine mJ_top (b2i_t h1) ?_
  refine mJ_if_eq 18 dX7_hintOf_5 rfl (fun c => absurd c (by decide)) (fun _ => ?_)
  refine mJ_iload_n dX7_hintOf_8 rfl ?_
  refine mJ_if_lt 18 dX7_hintOf_9 rfl (fun c => absurd c (by decide)) (fun _ => ?_)
  refine mJ_iload_n dX7_hintOf_12 rfl ?_
  refine mJ_bipush (v := 16) dX7_hintOf_13 rfl ?_
  refine mJ_icmp_le 22 dX7_hintOf_15 rfl (fun _ => ?_) (fun c => absurd c (by decide))
  refine mJ_iload_n dX7_hintOf_22 rfl ?_
  refine mJ_bipush (v := 8) dX7_hintOf_23 rfl ?_
  refine mJ_icmp_ge 38 dX7_hintOf_25 rfl (fun _ => ?_) (fun c => absurd c (by decide))
  refine mJ_iload_n dX7_hintOf_38 rfl ?_
  refine mJ_bipush (v := 8) dX7_hintOf_39 rfl ?_
  refine mJ_icmp_ne 56 dX7_hintOf_41 rfl (fun _ => ?_) (fun c => absurd c (by decide))
  refine mJ_iload_n dX7_hintOf_56 rfl ?_
  refine mJ_bipush (v := 15) dX7_hintOf_57 rfl ?_
  refine mJ_icmp_ne 86 dX7_hintOf_59 rfl (fun _ => ?_) (fun c => absurd c (by decide))
  refine mJ_iload_n dX7_hintOf_86 rfl ?_
  refine mJ_bipush (v := 16) dX7_hintOf_87 rfl ?_
  refine mJ_icmp_ne 118 dX7_hintOf_89 rfl (fun _ => ?_) (fun c => absurd c (by decide))
  refine mJ_aload_n dX7_hintOf_118 rfl ?_
  refine mJ_get dX7_hintOf_119 f_X7_26 rfl rfl ?_
  refine mJ_get dX7_hintOf_122 f_X7_156 rfl rfl ?_
  refine mJ_iload_n dX7_hintOf_125 rfl ?_
  refine mJ_cV1i dX7_hintOf_126 e_X3_get n_X7_160 ⟨Nat.le_of_ble_eq_true rfl, Nat.le_of_ble_eq_true rfl⟩ rfl rfl (Nat.le_of_ble_eq_true rfl) (C_X3_get rfl rfl (Nat.le_of_ble_eq_true rfl)) ?_
  refine mJ_top (((rg_in RS hh (by decide))).trans hS) ?_
  refine mJ_if_ne 141 dX7_hintOf_129 rfl (fun c_129 => False.elim (by exact c_129 rfl)) (fun c_129 => ?_)
  refine mJ_aload_n dX7_hintOf_132 rfl ?_
  refine mJ_iload_n dX7_hintOf_133 rfl ?_
  refine mJ_iload_n dX7_hintOf_134 rfl ?_
  refine mJ_cV2i dX7_hintOf_135 e_X7_shownValue n_X7_172 ⟨Nat.le_of_ble_eq_true rfl, Nat.le_of_ble_eq_true rfl⟩ rfl rfl (Nat.le_of_ble_eq_true rfl) (C_X7_shownValue_12 hh hs) ?_
  refine mJ_goto 144 dX7_hintOf_138 rfl ?_
  exact mJ_iret dX7_hintOf_144 rfl (rfl) (rfl)
set_option maxHeartbeats 4000000 in
set_option maxRecDepth 100000 in
theorem C_X7_hintOf_12_n {C W : aF} {o n : Nat} {RS SD XS YS OR : aF} {shn : Int32} {T1 : tT} {P1 : tP} {Od : tO} {T2 : tT} {P2 : tP} {h : Nat} (hh : h < 12) (h1 : q_hint C (nI h)) (hS : ¬ RS h = 0) : mCt k_X7_hintOf [.ref 0, .int (nI h), .int 12] (cH C (W, nI o, nI n) (RS, SD, XS, YS, OR, shn) T1 P1 Od T2 P2) (some (.int (-10004))) (cH C (W, nI o, nI n) (RS, SD, XS, YS, OR, shn) T1 P1 Od T2 P2) := by
  refine mCt_intro (plainFor_of_name rfl) (Nat.le_of_ble_eq_true rfl) (m_all rfl) (ls := [_, _, _, _]) rfl ?_
  refine mJ_aload_n dX7_hintOf_0 rfl ?_
  refine mJ_iload_n dX7_hintOf_1 rfl ?_
  refine mJ_cV1i dX7_hintOf_2 e_X7_isHint n_X7_140 ⟨Nat.le_of_ble_eq_true rfl, Nat.le_of_ble_eq_true rfl⟩ rfl rfl (Nat.le_of_ble_eq_true rfl) (C_X7_isHint) ?_
  refine mJ_top (b2i_t h1) ?_
  refine mJ_if_eq 18 dX7_hintOf_5 rfl (fun c => absurd c (by decide)) (fun _ => ?_)
  refine mJ_iload_n dX7_hintOf_8 rfl ?_
  refine mJ_if_lt 18 dX7_hintOf_9 rfl (fun c => absurd c (by decide)) (fun _ => ?_)
  refine mJ_iload_n dX7_hintOf_12 rfl ?_
  refine mJ_bipush (v := 16) dX7_hintOf_13 rfl ?_
  refine mJ_icmp_le 22 dX7_hintOf_15 rfl (fun _ => ?_) (fun c => absurd c (by decide))
  refine mJ_iload_n dX7_hintOf_22 rfl ?_
  refine mJ_bipush (v := 8) dX7_hintOf_23 rfl ?_
  refine mJ_icmp_ge 38 dX7_hintOf_25 rfl (fun _ => ?_) (fun c => absurd c (by decide))
  refine mJ_iload_n dX7_hintOf_38 rfl ?_
  refine mJ_bipush (v := 8) dX7_hintOf_39 rfl ?_
  refine mJ_icmp_ne 56 dX7_hintOf_41 rfl (fun _ => ?_) (fun c => absurd c (by decide))
  refine mJ_iload_n dX7_hintOf_56 rfl ?_
  refine mJ_bipush (v := 15) dX7_hintOf_57 rfl ?_
  refine mJ_icmp_ne 86 dX7_hintOf_59 rfl (fun _ => ?_) (fun c => absurd c (by decide))
  refine mJ_iload_n dX7_hintOf_86 rfl ?_
  refine mJ_bipush (v := 16) dX7_hintOf_87 rfl ?_
  refine mJ_icmp_ne 118 dX7_hintOf_89 rfl (fun _ => ?_) (fun c => absurd c (by decide))
  refine mJ_aload_n dX7_hintOf_118 rfl ?_
  refine mJ_get dX7_hintOf_119 f_X7_26 rfl rfl ?_
  refine mJ_get dX7_hintOf_122 f_X7_156 rfl rfl ?_
  refine mJ_iload_n dX7_hintOf_125 rfl ?_
  refine mJ_cV1i dX7_hintOf_126 e_X3_get n_X7_160 ⟨Nat.le_of_ble_eq_true rfl, Nat.le_of_ble_eq_true rfl⟩ rfl rfl (Nat.le_of_ble_eq_true rfl) (C_X3_get rfl rfl (Nat.le_of_ble_eq_true rfl)) ?_
  refine mJ_top ((rg_in RS hh (by decide))) ?_
  refine mJ_if_ne 141 dX7_hintOf_129 rfl (fun c_129 => ?_) (fun c_129 => False.elim (by exact hS c_129))
  refine mJ_sipush (v := (-10004)) dX7_hintOf_141 rfl ?_
  exact mJ_iret dX7_hintOf_144 rfl (rfl) (rfl)
set_option maxHeartbeats 4000000 in
set_option maxRecDepth 100000 in
theorem C_X7_hintOf_13 {C W : aF} {o n : Nat} {RS SD XS YS OR : aF} {shn : Int32} {T1 : tT} {P1 : tP} {Od : tO} {T2 : tT} {P2 : tP} {s : Int32} {h : Nat} (hh : h < 12) (h1 : q_hint C (nI h)) (hS : RS h = 0) (hs : SD h = s) : mCt k_X7_hintOf [.ref 0, .int (nI h), .int 13] (cH C (W, nI o, nI n) (RS, SD, XS, YS, OR, shn) T1 P1 Od T2 P2) (some (.int (b2i (f_gd C (nI h) s (gG C 2) (gG C 3))))) (cH C (W, nI o, nI n) (RS, SD, XS, YS, OR, shn) T1 P1 Od T2 (f_P C (nI h) s (gG C 2) (gG C 3))) := by
  refine mCt_intro (plainFor_of_name rfl) (Nat.le_of_ble_eq_true rfl) (m_all rfl) (ls := [_, _, _, _]) rfl ?_
  refine mJ_aload_n dX7_hintOf_0 rfl ?_
  refine mJ_iload_n dX7_hintOf_1 rfl ?_
  refine mJ_cV1i dX7_hintOf_2 e_X7_isHint n_X7_140 ⟨Nat.le_of_ble_eq_true rfl, Nat.le_of_ble_eq_true rfl⟩ rfl rfl (Nat.le_of_ble_eq_true rfl) (C_X7_isHint) ?_
  refine mJ_top (b2i_t h1) ?_
  refine mJ_if_eq 18 dX7_hintOf_5 rfl (fun c => absurd c (by decide)) (fun _ => ?_)
  refine mJ_iload_n dX7_hintOf_8 rfl ?_
  refine mJ_if_lt 18 dX7_hintOf_9 rfl (fun c => absurd c (by decide)) (fun _ => ?_)
  refine mJ_iload_n dX7_hintOf_12 rfl ?_
  refine mJ_bipush (v := 16) dX7_hintOf_13 rfl ?_
  refine mJ_icmp_le 22 dX7_hintOf_15 rfl (fun _ => ?_) (fun c => absurd c (by decide))
  refine mJ_iload_n dX7_hintOf_22 rfl ?_
  refine mJ_bipush (v := 8) dX7_hintOf_23 rfl ?_
  refine mJ_icmp_ge 38 dX7_hintOf_25 rfl (fun _ => ?_) (fun c => absurd c (by decide))
  refine mJ_iload_n dX7_hintOf_38 rfl ?_
  refine mJ_bipush (v := 8) dX7_hintOf_39 rfl ?_
  refine mJ_icmp_ne 56 dX7_hintOf_41 rfl (fun _ => ?_) (fun c => absurd c (by decide))
  refine mJ_iload_n dX7_hintOf_56 rfl ?_
  refine mJ_bipush (v := 15) dX7_hintOf_57 rfl ?_
  refine mJ_icmp_ne 86 dX7_hintOf_59 rfl (fun _ => ?_) (fun c => absurd c (by decide))
  refine mJ_iload_n dX7_hintOf_86 rfl ?_
  refine mJ_bipush (v := 16) dX7_hintOf_87 rfl ?_
  refine mJ_icmp_ne 118 dX7_hintOf_89 rfl (fun _ => ?_) (fun c => absurd c (by decide))
  refine mJ_aload_n dX7_hintOf_118 rfl ?_
  refine mJ_get dX7_hintOf_119 f_X7_26 rfl rfl ?_
  refine mJ_get dX7_hintOf_122 f_X7_156 rfl rfl ?_
  refine mJ_iload_n dX7_hintOf_125 rfl ?_
  refine mJ_cV1i dX7_hintOf_126 e_X3_get n_X7_160 ⟨Nat.le_of_ble_eq_true rfl, Nat.le_of_ble_eq_true rfl⟩ rfl rfl (Nat.le_of_ble_eq_true rfl) (C_X3_get rfl rfl (Nat.le_of_ble_eq_true rfl)) ?_
  refine mJ_top (((rg_in RS hh (by decide))).trans hS) ?_
  refine mJ_if_ne 141 dX7_hintOf_129 rfl (fun c_129 => False.elim (by exact c_129 rfl)) (fun c_129 => ?_)
  refine mJ_aload_n dX7_hintOf_132 rfl ?_
  refine mJ_iload_n dX7_hintOf_133 rfl ?_
  refine mJ_iload_n dX7_hintOf_134 rfl ?_
  refine mJ_cV2i dX7_hintOf_135 e_X7_shownValue n_X7_172 ⟨Nat.le_of_ble_eq_true rfl, Nat.le_of_ble_eq_true rfl⟩ rfl rfl (Nat.le_of_ble_eq_true rfl) (C_X7_shownValue_13 hh hs) ?_
  refine mJ_goto 144 dX7_hintOf_138 rfl ?_
  exact mJ_iret dX7_hintOf_144 rfl (rfl) (rfl)
set_option maxHeartbeats 4000000 in
set_option maxRecDepth 100000 in
theorem C_X7_hintOf_13_n {C W : aF} {o n : Nat} {RS SD XS YS OR : aF} {shn : Int32} {T1 : tT} {P1 : tP} {Od : tO} {T2 : tT} {P2 : tP} {h : Nat} (hh : h < 12) (h1 : q_hint C (nI h)) (hS : ¬ RS h = 0) : mCt k_X7_hintOf [.ref 0, .int (nI h), .int 13] (cH C (W, nI o, nI n) (RS, SD, XS, YS, OR, shn) T1 P1 Od T2 P2) (some (.int (-10004))) (cH C (W, nI o, nI n) (RS, SD, XS, YS, OR, shn) T1 P1 Od T2 P2) := by
  refine mCt_intro (plainFor_of_name rfl) (Nat.le_of_ble_eq_true rfl) (m_all rfl) (ls := [_, _, _, _]) rfl ?_
  refine mJ_aload_n dX7_hintOf_0 rfl ?_
  refine mJ_iload_n dX7_hintOf_1 rfl ?_
  refine mJ_cV1i dX7_hintOf_2 e_X7_isHint n_X7_140 ⟨Nat.le_of_ble_eq_true rfl, Nat.le_of_ble_eq_true rfl⟩ rfl rfl (Nat.le_of_ble_eq_true rfl) (C_X7_isHint) ?_
  refine mJ_top (b2i_t h1) ?_
  refine mJ_if_eq 18 dX7_hintOf_5 rfl (fun c => absurd c (by decide)) (fun _ => ?_)
  refine mJ_iload_n dX7_hintOf_8 rfl ?_
  refine mJ_if_lt 18 dX7_hintOf_9 rfl (fun c => absurd c (by decide)) (fun _ => ?_)
  refine mJ_iload_n dX7_hintOf_12 rfl ?_
  refine mJ_bipush (v := 16) dX7_hintOf_13 rfl ?_
  refine mJ_icmp_le 22 dX7_hintOf_15 rfl (fun _ => ?_) (fun c => absurd c (by decide))
  refine mJ_iload_n dX7_hintOf_22 rfl ?_
  refine mJ_bipush (v := 8) dX7_hintOf_23 rfl ?_
  refine mJ_icmp_ge 38 dX7_hintOf_25 rfl (fun _ => ?_) (fun c => absurd c (by decide))
  refine mJ_iload_n dX7_hintOf_38 rfl ?_
  refine mJ_bipush (v := 8) dX7_hintOf_39 rfl ?_
  refine mJ_icmp_ne 56 dX7_hintOf_41 rfl (fun _ => ?_) (fun c => absurd c (by decide))
  refine mJ_iload_n dX7_hintOf_56 rfl ?_
  refine mJ_bipush (v := 15) dX7_hintOf_57 rfl ?_
  refine mJ_icmp_ne 86 dX7_hintOf_59 rfl (fun _ => ?_) (fun c => absurd c (by decide))
  refine mJ_iload_n dX7_hintOf_86 rfl ?_
  refine mJ_bipush (v := 16) dX7_hintOf_87 rfl ?_
  refine mJ_icmp_ne 118 dX7_hintOf_89 rfl (fun _ => ?_) (fun c => absurd c (by decide))
  refine mJ_aload_n dX7_hintOf_118 rfl ?_
  refine mJ_get dX7_hintOf_119 f_X7_26 rfl rfl ?_
  refine mJ_get dX7_hintOf_122 f_X7_156 rfl rfl ?_
  refine mJ_iload_n dX7_hintOf_125 rfl ?_
  refine mJ_cV1i dX7_hintOf_126 e_X3_get n_X7_160 ⟨Nat.le_of_ble_eq_true rfl, Nat.le_of_ble_eq_true rfl⟩ rfl rfl (Nat.le_of_ble_eq_true rfl) (C_X3_get rfl rfl (Nat.le_of_ble_eq_true rfl)) ?_
  refine mJ_top ((rg_in RS hh (by decide))) ?_
  refine mJ_if_ne 141 dX7_hintOf_129 rfl (fun c_129 => ?_) (fun c_129 => False.elim (by exact hS c_129))
  refine mJ_sipush (v := (-10004)) dX7_hintOf_141 rfl ?_
  exact mJ_iret dX7_hintOf_144 rfl (rfl) (rfl)
set_option maxHeartbeats 4000000 in
set_option maxRecDepth 100000 in
theorem C_X7_hintOf_14 {C W : aF} {o n : Nat} {RS SD XS YS OR : aF} {shn : Int32} {T1 : tT} {P1 : tP} {Od : tO} {T2 : tT} {P2 : tP} {s : Int32} {h : Nat} (hh : h < 12) (h1 : q_hint C (nI h)) (hS : RS h = 0) (hs : SD h = s) : mCt k_X7_hintOf [.ref 0, .int (nI h), .int 14] (cH C (W, nI o, nI n) (RS, SD, XS, YS, OR, shn) T1 P1 Od T2 P2) (some (.int (f_shf C (nI h) s (gG C 2) (gG C 3)))) (cH C (W, nI o, nI n) (RS, SD, XS, YS, OR, shn) T1 P1 Od T2 (f_P C (nI h) s (gG C 2) (gG C 3))) := by
  refine mCt_intro (plainFor_of_name rfl) (Nat.le_of_ble_eq_true rfl) (m_all rfl) (ls := [_, _, _, _]) rfl ?_
  refine mJ_aload_n dX7_hintOf_0 rfl ?_
  refine mJ_iload_n dX7_hintOf_1 rfl ?_
  refine mJ_cV1i dX7_hintOf_2 e_X7_isHint n_X7_140 ⟨Nat.le_of_ble_eq_true rfl, Nat.le_of_ble_eq_true rfl⟩ rfl rfl (Nat.le_of_ble_eq_true rfl) (C_X7_isHint) ?_
  refine mJ_top (b2i_t h1) ?_
  refine mJ_if_eq 18 dX7_hintOf_5 rfl (fun c => absurd c (by decide)) (fun _ => ?_)
  refine mJ_iload_n dX7_hintOf_8 rfl ?_
  refine mJ_if_lt 18 dX7_hintOf_9 rfl (fun c => absurd c (by decide)) (fun _ => ?_)
  refine mJ_iload_n dX7_hintOf_12 rfl ?_
  refine mJ_bipush (v := 16) dX7_hintOf_13 rfl ?_
  refine mJ_icmp_le 22 dX7_hintOf_15 rfl (fun _ => ?_) (fun c => absurd c (by decide))
  refine mJ_iload_n dX7_hintOf_22 rfl ?_
  refine mJ_bipush (v := 8) dX7_hintOf_23 rfl ?_
  refine mJ_icmp_ge 38 dX7_hintOf_25 rfl (fun _ => ?_) (fun c => absurd c (by decide))
  refine mJ_iload_n dX7_hintOf_38 rfl ?_
  refine mJ_bipush (v := 8) dX7_hintOf_39 rfl ?_
  refine mJ_icmp_ne 56 dX7_hintOf_41 rfl (fun _ => ?_) (fun c => absurd c (by decide))
  refine mJ_iload_n dX7_hintOf_56 rfl ?_
  refine mJ_bipush (v := 15) dX7_hintOf_57 rfl ?_
  refine mJ_icmp_ne 86 dX7_hintOf_59 rfl (fun _ => ?_) (fun c => absurd c (by decide))
  refine mJ_iload_n dX7_hintOf_86 rfl ?_
  refine mJ_bipush (v := 16) dX7_hintOf_87 rfl ?_
  refine mJ_icmp_ne 118 dX7_hintOf_89 rfl (fun _ => ?_) (fun c => absurd c (by decide))
  refine mJ_aload_n dX7_hintOf_118 rfl ?_
  refine mJ_get dX7_hintOf_119 f_X7_26 rfl rfl ?_
  refine mJ_get dX7_hintOf_122 f_X7_156 rfl rfl ?_
  refine mJ_iload_n dX7_hintOf_125 rfl ?_
  refine mJ_cV1i dX7_hintOf_126 e_X3_get n_X7_160 ⟨Nat.le_of_ble_eq_true rfl, Nat.le_of_ble_eq_true rfl⟩ rfl rfl (Nat.le_of_ble_eq_true rfl) (C_X3_get rfl rfl (Nat.le_of_ble_eq_true rfl)) ?_
  refine mJ_top (((rg_in RS hh (by decide))).trans hS) ?_
  refine mJ_if_ne 141 dX7_hintOf_129 rfl (fun c_129 => False.elim (by exact c_129 rfl)) (fun c_129 => ?_)
  refine mJ_aload_n dX7_hintOf_132 rfl ?_
  refine mJ_iload_n dX7_hintOf_133 rfl ?_
  refine mJ_iload_n dX7_hintOf_134 rfl ?_
  refine mJ_cV2i dX7_hintOf_135 e_X7_shownValue n_X7_172 ⟨Nat.le_of_ble_eq_true rfl, Nat.le_of_ble_eq_true rfl⟩ rfl rfl (Nat.le_of_ble_eq_true rfl) (C_X7_shownValue_14 hh hs) ?_
  refine mJ_goto 144 dX7_hintOf_138 rfl ?_
  exact mJ_iret dX7_hintOf_144 rfl (rfl) (rfl)
set_option maxHeartbeats 4000000 in
set_option maxRecDepth 100000 in
theorem C_X7_hintOf_14_n {C W : aF} {o n : Nat} {RS SD XS YS OR : aF} {shn : Int32} {T1 : tT} {P1 : tP} {Od : tO} {T2 : tT} {P2 : tP} {h : Nat} (hh : h < 12) (h1 : q_hint C (nI h)) (hS : ¬ RS h = 0) : mCt k_X7_hintOf [.ref 0, .int (nI h), .int 14] (cH C (W, nI o, nI n) (RS, SD, XS, YS, OR, shn) T1 P1 Od T2 P2) (some (.int (-10004))) (cH C (W, nI o, nI n) (RS, SD, XS, YS, OR, shn) T1 P1 Od T2 P2) := by
  refine mCt_intro (plainFor_of_name rfl) (Nat.le_of_ble_eq_true rfl) (m_all rfl) (ls := [_, _, _, _]) rfl ?_
  refine mJ_aload_n dX7_hintOf_0 rfl ?_
  refine mJ_iload_n dX7_hintOf_1 rfl ?_
  refine mJ_cV1i dX7_hintOf_2 e_X7_isHint n_X7_140 ⟨Nat.le_of_ble_eq_true rfl, Nat.le_of_ble_eq_true rfl⟩ rfl rfl (Nat.le_of_ble_eq_true rfl) (C_X7_isHint) ?_
  refine mJ_top (b2i_t h1) ?_
  refine mJ_if_eq 18 dX7_hintOf_5 rfl (fun c => absurd c (by decide)) (fun _ => ?_)
  refine mJ_iload_n dX7_hintOf_8 rfl ?_
  refine mJ_if_lt 18 dX7_hintOf_9 rfl (fun c => absurd c (by decide)) (fun _ => ?_)
  refine mJ_iload_n dX7_hintOf_12 rfl ?_
  refine mJ_bipush (v := 16) dX7_hintOf_13 rfl ?_
  refine mJ_icmp_le 22 dX7_hintOf_15 rfl (fun _ => ?_) (fun c => absurd c (by decide))
  refine mJ_iload_n dX7_hintOf_22 rfl ?_
  refine mJ_bipush (v := 8) dX7_hintOf_23 rfl ?_
  refine mJ_icmp_ge 38 dX7_hintOf_25 rfl (fun _ => ?_) (fun c => absurd c (by decide))
  refine mJ_iload_n dX7_hintOf_38 rfl ?_
  refine mJ_bipush (v := 8) dX7_hintOf_39 rfl ?_
  refine mJ_icmp_ne 56 dX7_hintOf_41 rfl (fun _ => ?_) (fun c => absurd c (by decide))
  refine mJ_iload_n dX7_hintOf_56 rfl ?_
  refine mJ_bipush (v := 15) dX7_hintOf_57 rfl ?_
  refine mJ_icmp_ne 86 dX7_hintOf_59 rfl (fun _ => ?_) (fun c => absurd c (by decide))
  refine mJ_iload_n dX7_hintOf_86 rfl ?_
  refine mJ_bipush (v := 16) dX7_hintOf_87 rfl ?_
  refine mJ_icmp_ne 118 dX7_hintOf_89 rfl (fun _ => ?_) (fun c => absurd c (by decide))
  refine mJ_aload_n dX7_hintOf_118 rfl ?_
  refine mJ_get dX7_hintOf_119 f_X7_26 rfl rfl ?_
  refine mJ_get dX7_hintOf_122 f_X7_156 rfl rfl ?_
  refine mJ_iload_n dX7_hintOf_125 rfl ?_
  refine mJ_cV1i dX7_hintOf_126 e_X3_get n_X7_160 ⟨Nat.le_of_ble_eq_true rfl, Nat.le_of_ble_eq_true rfl⟩ rfl rfl (Nat.le_of_ble_eq_true rfl) (C_X3_get rfl rfl (Nat.le_of_ble_eq_true rfl)) ?_
  refine mJ_top ((rg_in RS hh (by decide))) ?_
  refine mJ_if_ne 141 dX7_hintOf_129 rfl (fun c_129 => ?_) (fun c_129 => False.elim (by exact hS c_129))
  refine mJ_sipush (v := (-10004)) dX7_hintOf_141 rfl ?_
  exact mJ_iret dX7_hintOf_144 rfl (rfl) (rfl)
set_option maxHeartbeats 4000000 in
set_option maxRecDepth 100000 in
theorem C_X7_ifOn_bad {C W : aF} {o n : Nat} {RS SD XS YS OR : aF} {shn : Int32} {T1 : tT} {P1 : tP} {Od : tO} {T2 : tT} {P2 : tP} {h s w : Int32} (hb : ¬ (q_hint C h ∧ q_side s)) : mCt k_X7_ifOn [.ref 0, .int h, .int s, .int w] (cH C (W, nI o, nI n) (RS, SD, XS, YS, OR, shn) T1 P1 Od T2 P2) (some (.int (-10001))) (cH C (W, nI o, nI n) (RS, SD, XS, YS, OR, shn) T1 P1 Od T2 P2) := by
  refine mCt_intro (plainFor_of_name rfl) (Nat.le_of_ble_eq_true rfl) (m_all rfl) (ls := [_, _, _, _]) rfl ?_
  refine mJ_aload_n dX7_ifOn_0 rfl ?_
  refine mJ_iload_n dX7_ifOn_1 rfl ?_
  refine mJ_cV1i dX7_ifOn_2 e_X7_isHint n_X7_140 ⟨Nat.le_of_ble_eq_true rfl, Nat.le_of_ble_eq_true rfl⟩ rfl rfl (Nat.le_of_ble_eq_true rfl) (C_X7_isHint) ?_
  refine mJ_b2i (fun b_2 => ?_) (fun b_2 => ?_)
  · refine mJ_if_eq 15 dX7_ifOn_5 rfl (fun c => absurd c (by decide)) (fun _ => ?_)
    refine mJ_iload_n dX7_ifOn_8 rfl ?_
    refine mJ_cS1i dX7_ifOn_9 e_X7_isSide n_X7_131 ⟨Nat.le_of_ble_eq_true rfl, Nat.le_of_ble_eq_true rfl⟩ (Nat.le_of_ble_eq_true rfl) (C_X7_isSide) ?_
    refine mJ_b2i (fun b_9 => ?_) (fun b_9 => ?_)
    · exact False.elim (by exact hb ⟨b_2, b_9⟩)
    · refine mJ_if_ne 19 dX7_ifOn_12 rfl (fun c => absurd c (by decide)) (fun _ => ?_)
      refine mJ_sipush (v := (-10001)) dX7_ifOn_15 rfl ?_
      exact mJ_iret dX7_ifOn_18 rfl (rfl) (rfl)
  · refine mJ_if_eq 15 dX7_ifOn_5 rfl (fun _ => ?_) (fun c => absurd c (by decide))
    refine mJ_sipush (v := (-10001)) dX7_ifOn_15 rfl ?_
    exact mJ_iret dX7_ifOn_18 rfl (rfl) (rfl)
set_option maxHeartbeats 4000000 in
set_option maxRecDepth 100000 in
theorem C_X7_ifOn_0 {C W : aF} {o n : Nat} {RS SD XS YS OR : aF} {shn : Int32} {T1 : tT} {P1 : tP} {Od : tO} {T2 : tT} {P2 : tP} {h s : Int32} (h1 : q_hint C h) (h2 : q_side s) : mCt k_X7_ifOn [.ref 0, .int h, .int s, .int 0] (cH C (W, nI o, nI n) (RS, SD, XS, YS, OR, shn) T1 P1 Od T2 P2) (some (.int (b2i (f_in C h s (gG C 2) (gG C 3))))) (cH C (W, nI o, nI n) (RS, SD, XS, YS, OR, shn) T1 P1 Od T2 (f_P C h s (gG C 2) (gG C 3))) := by
  refine mCt_intro (plainFor_of_name rfl) (Nat.le_of_ble_eq_true rfl) (m_all rfl) (ls := [_, _, _, _]) rfl ?_
  refine mJ_aload_n dX7_ifOn_0 rfl ?_
  refine mJ_iload_n dX7_ifOn_1 rfl ?_
  refine mJ_cV1i dX7_ifOn_2 e_X7_isHint n_X7_140 ⟨Nat.le_of_ble_eq_true rfl, Nat.le_of_ble_eq_true rfl⟩ rfl rfl (Nat.le_of_ble_eq_true rfl) (C_X7_isHint) ?_
  refine mJ_top (b2i_t h1) ?_
  refine mJ_if_eq 15 dX7_ifOn_5 rfl (fun c => absurd c (by decide)) (fun _ => ?_)
  refine mJ_iload_n dX7_ifOn_8 rfl ?_
  refine mJ_cS1i dX7_ifOn_9 e_X7_isSide n_X7_131 ⟨Nat.le_of_ble_eq_true rfl, Nat.le_of_ble_eq_true rfl⟩ (Nat.le_of_ble_eq_true rfl) (C_X7_isSide) ?_
  refine mJ_top (b2i_t h2) ?_
  refine mJ_if_ne 19 dX7_ifOn_12 rfl (fun _ => ?_) (fun c => absurd c (by decide))
  refine mJ_aload_n dX7_ifOn_19 rfl ?_
  refine mJ_get dX7_ifOn_20 f_X7_47 rfl rfl ?_
  refine mJ_aload_n dX7_ifOn_23 rfl ?_
  refine mJ_get dX7_ifOn_24 f_X7_12 rfl rfl ?_
  refine mJ_iload_n dX7_ifOn_27 rfl ?_
  refine mJ_iload_n dX7_ifOn_28 rfl ?_
  refine mJ_aload_n dX7_ifOn_29 rfl ?_
  refine mJ_get dX7_ifOn_30 f_X7_12 rfl rfl ?_
  refine mJ_iconst (v := 2) dX7_ifOn_33 rfl ?_
  refine mJ_cV1i dX7_ifOn_34 e_X5_get n_X7_80 ⟨Nat.le_of_ble_eq_true rfl, Nat.le_of_ble_eq_true rfl⟩ rfl rfl (Nat.le_of_ble_eq_true rfl) (C_X5_get) ?_
  refine mJ_aload_n dX7_ifOn_37 rfl ?_
  refine mJ_get dX7_ifOn_38 f_X7_12 rfl rfl ?_
  refine mJ_iconst (v := 3) dX7_ifOn_41 rfl ?_
  refine mJ_cV1i dX7_ifOn_42 e_X5_get n_X7_80 ⟨Nat.le_of_ble_eq_true rfl, Nat.le_of_ble_eq_true rfl⟩ rfl rfl (Nat.le_of_ble_eq_true rfl) (C_X5_get) ?_
  refine mJ_cV5v dX7_ifOn_45 e_X2_find n_X7_185 ⟨Nat.le_of_ble_eq_true rfl, Nat.le_of_ble_eq_true rfl⟩ rfl rfl (Nat.le_of_ble_eq_true rfl) (C_X2_find_28) ?_
  refine mJ_iload_n dX7_ifOn_48 rfl ?_
  refine mJ_tin 84 dX7_ifOn_49 (by decide) (by decide) rfl rfl ?_
  refine mJ_aload_n dX7_ifOn_84 rfl ?_
  refine mJ_get dX7_ifOn_85 f_X7_47 rfl rfl ?_
  refine mJ_get_28_5 dX7_ifOn_88 f_X7_189 ?_
  refine mJ_b2i (fun b_91 => ?_) (fun b_91 => ?_)
  · refine mJ_if_eq 98 dX7_ifOn_91 rfl (fun c => absurd c (by decide)) (fun _ => ?_)
    refine mJ_iconst (v := 1) dX7_ifOn_94 rfl ?_
    refine mJ_goto 99 dX7_ifOn_95 rfl ?_
    exact mJ_iret dX7_ifOn_99 rfl (z_t b_91) (rfl)
  · refine mJ_if_eq 98 dX7_ifOn_91 rfl (fun _ => ?_) (fun c => absurd c (by decide))
    refine mJ_iconst (v := 0) dX7_ifOn_98 rfl ?_
    exact mJ_iret dX7_ifOn_99 rfl (z_f b_91) (rfl)
set_option maxHeartbeats 4000000 in
set_option maxRecDepth 100000 in
theorem C_X7_ifOn_1 {C W : aF} {o n : Nat} {RS SD XS YS OR : aF} {shn : Int32} {T1 : tT} {P1 : tP} {Od : tO} {T2 : tT} {P2 : tP} {h s : Int32} (h1 : q_hint C h) (h2 : q_side s) : mCt k_X7_ifOn [.ref 0, .int h, .int s, .int 1] (cH C (W, nI o, nI n) (RS, SD, XS, YS, OR, shn) T1 P1 Od T2 P2) (some (.int (f_x C h s (gG C 2) (gG C 3)))) (cH C (W, nI o, nI n) (RS, SD, XS, YS, OR, shn) T1 P1 Od T2 (f_P C h s (gG C 2) (gG C 3))) := by
  refine mCt_intro (plainFor_of_name rfl) (Nat.le_of_ble_eq_true rfl) (m_all rfl) (ls := [_, _, _, _]) rfl ?_
  refine mJ_aload_n dX7_ifOn_0 rfl ?_
  refine mJ_iload_n dX7_ifOn_1 rfl ?_
  refine mJ_cV1i dX7_ifOn_2 e_X7_isHint n_X7_140 ⟨Nat.le_of_ble_eq_true rfl, Nat.le_of_ble_eq_true rfl⟩ rfl rfl (Nat.le_of_ble_eq_true rfl) (C_X7_isHint) ?_
  refine mJ_top (b2i_t h1) ?_
  refine mJ_if_eq 15 dX7_ifOn_5 rfl (fun c => absurd c (by decide)) (fun _ => ?_)
  refine mJ_iload_n dX7_ifOn_8 rfl ?_
  refine mJ_cS1i dX7_ifOn_9 e_X7_isSide n_X7_131 ⟨Nat.le_of_ble_eq_true rfl, Nat.le_of_ble_eq_true rfl⟩ (Nat.le_of_ble_eq_true rfl) (C_X7_isSide) ?_
  refine mJ_top (b2i_t h2) ?_
  refine mJ_if_ne 19 dX7_ifOn_12 rfl (fun _ => ?_) (fun c => absurd c (by decide))
  refine mJ_aload_n dX7_ifOn_19 rfl ?_
  refine mJ_get dX7_ifOn_20 f_X7_47 rfl rfl ?_
  refine mJ_aload_n dX7_ifOn_23 rfl ?_
  refine mJ_get dX7_ifOn_24 f_X7_12 rfl rfl ?_
  refine mJ_iload_n dX7_ifOn_27 rfl ?_
  refine mJ_iload_n dX7_ifOn_28 rfl ?_
  refine mJ_aload_n dX7_ifOn_29 rfl ?_
  refine mJ_get dX7_ifOn_30 f_X7_12 rfl rfl ?_
  refine mJ_iconst (v := 2) dX7_ifOn_33 rfl ?_
  refine mJ_cV1i dX7_ifOn_34 e_X5_get n_X7_80 ⟨Nat.le_of_ble_eq_true rfl, Nat.le_of_ble_eq_true rfl⟩ rfl rfl (Nat.le_of_ble_eq_true rfl) (C_X5_get) ?_
  refine mJ_aload_n dX7_ifOn_37 rfl ?_
  refine mJ_get dX7_ifOn_38 f_X7_12 rfl rfl ?_
  refine mJ_iconst (v := 3) dX7_ifOn_41 rfl ?_
  refine mJ_cV1i dX7_ifOn_42 e_X5_get n_X7_80 ⟨Nat.le_of_ble_eq_true rfl, Nat.le_of_ble_eq_true rfl⟩ rfl rfl (Nat.le_of_ble_eq_true rfl) (C_X5_get) ?_
  refine mJ_cV5v dX7_ifOn_45 e_X2_find n_X7_185 ⟨Nat.le_of_ble_eq_true rfl, Nat.le_of_ble_eq_true rfl⟩ rfl rfl (Nat.le_of_ble_eq_true rfl) (C_X2_find_28) ?_
  refine mJ_iload_n dX7_ifOn_48 rfl ?_
  refine mJ_tin 100 dX7_ifOn_49 (by decide) (by decide) rfl rfl ?_
  refine mJ_aload_n dX7_ifOn_100 rfl ?_
  refine mJ_get dX7_ifOn_101 f_X7_47 rfl rfl ?_
  refine mJ_get_28_0 dX7_ifOn_104 f_X7_193 ?_
  exact mJ_iret dX7_ifOn_107 rfl (rfl) (rfl)
set_option maxHeartbeats 4000000 in
set_option maxRecDepth 100000 in
theorem C_X7_ifOn_2 {C W : aF} {o n : Nat} {RS SD XS YS OR : aF} {shn : Int32} {T1 : tT} {P1 : tP} {Od : tO} {T2 : tT} {P2 : tP} {h s : Int32} (h1 : q_hint C h) (h2 : q_side s) : mCt k_X7_ifOn [.ref 0, .int h, .int s, .int 2] (cH C (W, nI o, nI n) (RS, SD, XS, YS, OR, shn) T1 P1 Od T2 P2) (some (.int (f_y C h s (gG C 2) (gG C 3)))) (cH C (W, nI o, nI n) (RS, SD, XS, YS, OR, shn) T1 P1 Od T2 (f_P C h s (gG C 2) (gG C 3))) := by
  refine mCt_intro (plainFor_of_name rfl) (Nat.le_of_ble_eq_true rfl) (m_all rfl) (ls := [_, _, _, _]) rfl ?_
  refine mJ_aload_n dX7_ifOn_0 rfl ?_
  refine mJ_iload_n dX7_ifOn_1 rfl ?_
  refine mJ_cV1i dX7_ifOn_2 e_X7_isHint n_X7_140 ⟨Nat.le_of_ble_eq_true rfl, Nat.le_of_ble_eq_true rfl⟩ rfl rfl (Nat.le_of_ble_eq_true rfl) (C_X7_isHint) ?_
  refine mJ_top (b2i_t h1) ?_
  refine mJ_if_eq 15 dX7_ifOn_5 rfl (fun c => absurd c (by decide)) (fun _ => ?_)
  refine mJ_iload_n dX7_ifOn_8 rfl ?_
  refine mJ_cS1i dX7_ifOn_9 e_X7_isSide n_X7_131 ⟨Nat.le_of_ble_eq_true rfl, Nat.le_of_ble_eq_true rfl⟩ (Nat.le_of_ble_eq_true rfl) (C_X7_isSide) ?_
  refine mJ_top (b2i_t h2) ?_
  refine mJ_if_ne 19 dX7_ifOn_12 rfl (fun _ => ?_) (fun c => absurd c (by decide))
  refine mJ_aload_n dX7_ifOn_19 rfl ?_
  refine mJ_get dX7_ifOn_20 f_X7_47 rfl rfl ?_
  refine mJ_aload_n dX7_ifOn_23 rfl ?_
  refine mJ_get dX7_ifOn_24 f_X7_12 rfl rfl ?_
  refine mJ_iload_n dX7_ifOn_27 rfl ?_
  refine mJ_iload_n dX7_ifOn_28 rfl ?_
  refine mJ_aload_n dX7_ifOn_29 rfl ?_
  refine mJ_get dX7_ifOn_30 f_X7_12 rfl rfl ?_
  refine mJ_iconst (v := 2) dX7_ifOn_33 rfl ?_
  refine mJ_cV1i dX7_ifOn_34 e_X5_get n_X7_80 ⟨Nat.le_of_ble_eq_true rfl, Nat.le_of_ble_eq_true rfl⟩ rfl rfl (Nat.le_of_ble_eq_true rfl) (C_X5_get) ?_
  refine mJ_aload_n dX7_ifOn_37 rfl ?_
  refine mJ_get dX7_ifOn_38 f_X7_12 rfl rfl ?_
  refine mJ_iconst (v := 3) dX7_ifOn_41 rfl ?_
  refine mJ_cV1i dX7_ifOn_42 e_X5_get n_X7_80 ⟨Nat.le_of_ble_eq_true rfl, Nat.le_of_ble_eq_true rfl⟩ rfl rfl (Nat.le_of_ble_eq_true rfl) (C_X5_get) ?_
  refine mJ_cV5v dX7_ifOn_45 e_X2_find n_X7_185 ⟨Nat.le_of_ble_eq_true rfl, Nat.le_of_ble_eq_true rfl⟩ rfl rfl (Nat.le_of_ble_eq_true rfl) (C_X2_find_28) ?_
  refine mJ_iload_n dX7_ifOn_48 rfl ?_
  refine mJ_tin 108 dX7_ifOn_49 (by decide) (by decide) rfl rfl ?_
  refine mJ_aload_n dX7_ifOn_108 rfl ?_
  refine mJ_get dX7_ifOn_109 f_X7_47 rfl rfl ?_
  refine mJ_get_28_1 dX7_ifOn_112 f_X7_196 ?_
  exact mJ_iret dX7_ifOn_115 rfl (rfl) (rfl)
set_option maxHeartbeats 4000000 in
set_option maxRecDepth 100000 in
theorem C_X7_ifOn_3 {C W : aF} {o n : Nat} {RS SD XS YS OR : aF} {shn : Int32} {T1 : tT} {P1 : tP} {Od : tO} {T2 : tT} {P2 : tP} {h s : Int32} (h1 : q_hint C h) (h2 : q_side s) : mCt k_X7_ifOn [.ref 0, .int h, .int s, .int 3] (cH C (W, nI o, nI n) (RS, SD, XS, YS, OR, shn) T1 P1 Od T2 P2) (some (.int (f_shf C h s (gG C 2) (gG C 3)))) (cH C (W, nI o, nI n) (RS, SD, XS, YS, OR, shn) T1 P1 Od T2 (f_P C h s (gG C 2) (gG C 3))) := by
  refine mCt_intro (plainFor_of_name rfl) (Nat.le_of_ble_eq_true rfl) (m_all rfl) (ls := [_, _, _, _]) rfl ?_
  refine mJ_aload_n dX7_ifOn_0 rfl ?_
  refine mJ_iload_n dX7_ifOn_1 rfl ?_
  refine mJ_cV1i dX7_ifOn_2 e_X7_isHint n_X7_140 ⟨Nat.le_of_ble_eq_true rfl, Nat.le_of_ble_eq_true rfl⟩ rfl rfl (Nat.le_of_ble_eq_true rfl) (C_X7_isHint) ?_
  refine mJ_top (b2i_t h1) ?_
  refine mJ_if_eq 15 dX7_ifOn_5 rfl (fun c => absurd c (by decide)) (fun _ => ?_)
  refine mJ_iload_n dX7_ifOn_8 rfl ?_
  refine mJ_cS1i dX7_ifOn_9 e_X7_isSide n_X7_131 ⟨Nat.le_of_ble_eq_true rfl, Nat.le_of_ble_eq_true rfl⟩ (Nat.le_of_ble_eq_true rfl) (C_X7_isSide) ?_
  refine mJ_top (b2i_t h2) ?_
  refine mJ_if_ne 19 dX7_ifOn_12 rfl (fun _ => ?_) (fun c => absurd c (by decide))
  refine mJ_aload_n dX7_ifOn_19 rfl ?_
  refine mJ_get dX7_ifOn_20 f_X7_47 rfl rfl ?_
  refine mJ_aload_n dX7_ifOn_23 rfl ?_
  refine mJ_get dX7_ifOn_24 f_X7_12 rfl rfl ?_
  refine mJ_iload_n dX7_ifOn_27 rfl ?_
  refine mJ_iload_n dX7_ifOn_28 rfl ?_
  refine mJ_aload_n dX7_ifOn_29 rfl ?_
  refine mJ_get dX7_ifOn_30 f_X7_12 rfl rfl ?_
  refine mJ_iconst (v := 2) dX7_ifOn_33 rfl ?_
  refine mJ_cV1i dX7_ifOn_34 e_X5_get n_X7_80 ⟨Nat.le_of_ble_eq_true rfl, Nat.le_of_ble_eq_true rfl⟩ rfl rfl (Nat.le_of_ble_eq_true rfl) (C_X5_get) ?_
  refine mJ_aload_n dX7_ifOn_37 rfl ?_
  refine mJ_get dX7_ifOn_38 f_X7_12 rfl rfl ?_
  refine mJ_iconst (v := 3) dX7_ifOn_41 rfl ?_
  refine mJ_cV1i dX7_ifOn_42 e_X5_get n_X7_80 ⟨Nat.le_of_ble_eq_true rfl, Nat.le_of_ble_eq_true rfl⟩ rfl rfl (Nat.le_of_ble_eq_true rfl) (C_X5_get) ?_
  refine mJ_cV5v dX7_ifOn_45 e_X2_find n_X7_185 ⟨Nat.le_of_ble_eq_true rfl, Nat.le_of_ble_eq_true rfl⟩ rfl rfl (Nat.le_of_ble_eq_true rfl) (C_X2_find_28) ?_
  refine mJ_iload_n dX7_ifOn_48 rfl ?_
  refine mJ_tin 116 dX7_ifOn_49 (by decide) (by decide) rfl rfl ?_
  refine mJ_aload_n dX7_ifOn_116 rfl ?_
  refine mJ_get dX7_ifOn_117 f_X7_47 rfl rfl ?_
  refine mJ_get_28_2 dX7_ifOn_120 f_X7_199 ?_
  exact mJ_iret dX7_ifOn_123 rfl (rfl) (rfl)
set_option maxHeartbeats 4000000 in
set_option maxRecDepth 100000 in
theorem C_X7_ifOn_4 {C W : aF} {o n : Nat} {RS SD XS YS OR : aF} {shn : Int32} {T1 : tT} {P1 : tP} {Od : tO} {T2 : tT} {P2 : tP} {h s : Int32} (h1 : q_hint C h) (h2 : q_side s) : mCt k_X7_ifOn [.ref 0, .int h, .int s, .int 4] (cH C (W, nI o, nI n) (RS, SD, XS, YS, OR, shn) T1 P1 Od T2 P2) (some (.int (f_arr C h s (gG C 2) (gG C 3)))) (cH C (W, nI o, nI n) (RS, SD, XS, YS, OR, shn) T1 P1 Od T2 (f_P C h s (gG C 2) (gG C 3))) := by
  refine mCt_intro (plainFor_of_name rfl) (Nat.le_of_ble_eq_true rfl) (m_all rfl) (ls := [_, _, _, _]) rfl ?_
  refine mJ_aload_n dX7_ifOn_0 rfl ?_
  refine mJ_iload_n dX7_ifOn_1 rfl ?_
  refine mJ_cV1i dX7_ifOn_2 e_X7_isHint n_X7_140 ⟨Nat.le_of_ble_eq_true rfl, Nat.le_of_ble_eq_true rfl⟩ rfl rfl (Nat.le_of_ble_eq_true rfl) (C_X7_isHint) ?_
  refine mJ_top (b2i_t h1) ?_
  refine mJ_if_eq 15 dX7_ifOn_5 rfl (fun c => absurd c (by decide)) (fun _ => ?_)
  refine mJ_iload_n dX7_ifOn_8 rfl ?_
  refine mJ_cS1i dX7_ifOn_9 e_X7_isSide n_X7_131 ⟨Nat.le_of_ble_eq_true rfl, Nat.le_of_ble_eq_true rfl⟩ (Nat.le_of_ble_eq_true rfl) (C_X7_isSide) ?_
  refine mJ_top (b2i_t h2) ?_
  refine mJ_if_ne 19 dX7_ifOn_12 rfl (fun _ => ?_) (fun c => absurd c (by decide))
  refine mJ_aload_n dX7_ifOn_19 rfl ?_
  refine mJ_get dX7_ifOn_20 f_X7_47 rfl rfl ?_
  refine mJ_aload_n dX7_ifOn_23 rfl ?_
  refine mJ_get dX7_ifOn_24 f_X7_12 rfl rfl ?_
  refine mJ_iload_n dX7_ifOn_27 rfl ?_
  refine mJ_iload_n dX7_ifOn_28 rfl ?_
  refine mJ_aload_n dX7_ifOn_29 rfl ?_
  refine mJ_get dX7_ifOn_30 f_X7_12 rfl rfl ?_
  refine mJ_iconst (v := 2) dX7_ifOn_33 rfl ?_
  refine mJ_cV1i dX7_ifOn_34 e_X5_get n_X7_80 ⟨Nat.le_of_ble_eq_true rfl, Nat.le_of_ble_eq_true rfl⟩ rfl rfl (Nat.le_of_ble_eq_true rfl) (C_X5_get) ?_
  refine mJ_aload_n dX7_ifOn_37 rfl ?_
  refine mJ_get dX7_ifOn_38 f_X7_12 rfl rfl ?_
  refine mJ_iconst (v := 3) dX7_ifOn_41 rfl ?_
  refine mJ_cV1i dX7_ifOn_42 e_X5_get n_X7_80 ⟨Nat.le_of_ble_eq_true rfl, Nat.le_of_ble_eq_true rfl⟩ rfl rfl (Nat.le_of_ble_eq_true rfl) (C_X5_get) ?_
  refine mJ_cV5v dX7_ifOn_45 e_X2_find n_X7_185 ⟨Nat.le_of_ble_eq_true rfl, Nat.le_of_ble_eq_true rfl⟩ rfl rfl (Nat.le_of_ble_eq_true rfl) (C_X2_find_28) ?_
  refine mJ_iload_n dX7_ifOn_48 rfl ?_
  refine mJ_tin 124 dX7_ifOn_49 (by decide) (by decide) rfl rfl ?_
  refine mJ_aload_n dX7_ifOn_124 rfl ?_
  refine mJ_get dX7_ifOn_125 f_X7_47 rfl rfl ?_
  refine mJ_get_28_3 dX7_ifOn_128 f_X7_202 ?_
  exact mJ_iret dX7_ifOn_131 rfl (rfl) (rfl)
set_option maxHeartbeats 4000000 in
set_option maxRecDepth 100000 in
theorem C_X7_ifOn_d {C W : aF} {o n : Nat} {RS SD XS YS OR : aF} {shn : Int32} {T1 : tT} {P1 : tP} {Od : tO} {T2 : tT} {P2 : tP} {h s w : Int32} (h1 : q_hint C h) (h2 : q_side s) (hb : ¬ q_rg w 0 4) : mCt k_X7_ifOn [.ref 0, .int h, .int s, .int w] (cH C (W, nI o, nI n) (RS, SD, XS, YS, OR, shn) T1 P1 Od T2 P2) (some (.int (-10001))) (cH C (W, nI o, nI n) (RS, SD, XS, YS, OR, shn) T1 P1 Od T2 (f_P C h s (gG C 2) (gG C 3))) := by
  refine mCt_intro (plainFor_of_name rfl) (Nat.le_of_ble_eq_true rfl) (m_all rfl) (ls := [_, _, _, _]) rfl ?_
  refine mJ_aload_n dX7_ifOn_0 rfl ?_
  refine mJ_iload_n dX7_ifOn_1 rfl ?_
  refine mJ_cV1i dX7_ifOn_2 e_X7_isHint n_X7_140 ⟨Nat.le_of_ble_eq_true rfl, Nat.le_of_ble_eq_true rfl⟩ rfl rfl (Nat.le_of_ble_eq_true rfl) (C_X7_isHint) ?_
  refine mJ_top (b2i_t h1) ?_
  refine mJ_if_eq 15 dX7_ifOn_5 rfl (fun c => absurd c (by decide)) (fun _ => ?_)
  refine mJ_iload_n dX7_ifOn_8 rfl ?_
  refine mJ_cS1i dX7_ifOn_9 e_X7_isSide n_X7_131 ⟨Nat.le_of_ble_eq_true rfl, Nat.le_of_ble_eq_true rfl⟩ (Nat.le_of_ble_eq_true rfl) (C_X7_isSide) ?_
  refine mJ_top (b2i_t h2) ?_
  refine mJ_if_ne 19 dX7_ifOn_12 rfl (fun _ => ?_) (fun c => absurd c (by decide))
  refine mJ_aload_n dX7_ifOn_19 rfl ?_
  refine mJ_get dX7_ifOn_20 f_X7_47 rfl rfl ?_
  refine mJ_aload_n dX7_ifOn_23 rfl ?_
  refine mJ_get dX7_ifOn_24 f_X7_12 rfl rfl ?_
  refine mJ_iload_n dX7_ifOn_27 rfl ?_
  refine mJ_iload_n dX7_ifOn_28 rfl ?_
  refine mJ_aload_n dX7_ifOn_29 rfl ?_
  refine mJ_get dX7_ifOn_30 f_X7_12 rfl rfl ?_
  refine mJ_iconst (v := 2) dX7_ifOn_33 rfl ?_
  refine mJ_cV1i dX7_ifOn_34 e_X5_get n_X7_80 ⟨Nat.le_of_ble_eq_true rfl, Nat.le_of_ble_eq_true rfl⟩ rfl rfl (Nat.le_of_ble_eq_true rfl) (C_X5_get) ?_
  refine mJ_aload_n dX7_ifOn_37 rfl ?_
  refine mJ_get dX7_ifOn_38 f_X7_12 rfl rfl ?_
  refine mJ_iconst (v := 3) dX7_ifOn_41 rfl ?_
  refine mJ_cV1i dX7_ifOn_42 e_X5_get n_X7_80 ⟨Nat.le_of_ble_eq_true rfl, Nat.le_of_ble_eq_true rfl⟩ rfl rfl (Nat.le_of_ble_eq_true rfl) (C_X5_get) ?_
  refine mJ_cV5v dX7_ifOn_45 e_X2_find n_X7_185 ⟨Nat.le_of_ble_eq_true rfl, Nat.le_of_ble_eq_true rfl⟩ rfl rfl (Nat.le_of_ble_eq_true rfl) (C_X2_find_28) ?_
  refine mJ_iload_n dX7_ifOn_48 rfl ?_
  refine mJ_case 0 (fun s_49_0 => ?_) (fun s_49_0 => ?_)
  · exact False.elim (by exact hb (by rw [s_49_0]; exact ⟨by decide, by decide⟩))
  refine mJ_case 1 (fun s_49_1 => ?_) (fun s_49_1 => ?_)
  · exact False.elim (by exact hb (by rw [s_49_1]; exact ⟨by decide, by decide⟩))
  refine mJ_case 2 (fun s_49_2 => ?_) (fun s_49_2 => ?_)
  · exact False.elim (by exact hb (by rw [s_49_2]; exact ⟨by decide, by decide⟩))
  refine mJ_case 3 (fun s_49_3 => ?_) (fun s_49_3 => ?_)
  · exact False.elim (by exact hb (by rw [s_49_3]; exact ⟨by decide, by decide⟩))
  refine mJ_case 4 (fun s_49_4 => ?_) (fun s_49_4 => ?_)
  · exact False.elim (by exact hb (by rw [s_49_4]; exact ⟨by decide, by decide⟩))
  refine mJ_tout 132 dX7_ifOn_49 (m_out (fun z z1 z2 z3 => ?_)) rfl ?_
  · rcases (show z = 0 ∨ z = 1 ∨ z = 2 ∨ z = 3 ∨ z = 4 by omega) with rfl | rfl | rfl | rfl | rfl
    · exact s_49_0 (Int32.toInt_inj.mp z3)
    · exact s_49_1 (Int32.toInt_inj.mp z3)
    · exact s_49_2 (Int32.toInt_inj.mp z3)
    · exact s_49_3 (Int32.toInt_inj.mp z3)
    · exact s_49_4 (Int32.toInt_inj.mp z3)
  · refine mJ_sipush (v := (-10001)) dX7_ifOn_132 rfl ?_
    exact mJ_iret dX7_ifOn_135 rfl (rfl) (rfl)
set_option maxHeartbeats 4000000 in
set_option maxRecDepth 100000 in
theorem C_X7_at_bad {C W : aF} {o n : Nat} {RS SD XS YS OR : aF} {shn : Int32} {T1 : tT} {P1 : tP} {Od : tO} {T2 : tT} {P2 : tP} {x y : Int32} (hb : ¬ (q_in x 3000 ∧ q_in y 3000)) : mCt k_X7_at [.ref 0, .int x, .int y] (cH C (W, nI o, nI n) (RS, SD, XS, YS, OR, shn) T1 P1 Od T2 P2) (some (.int (-10001))) (cH C (W, nI o, nI n) (RS, SD, XS, YS, OR, shn) T1 P1 Od T2 P2) := by
  refine mCt_intro (plainFor_of_name rfl) (Nat.le_of_ble_eq_true rfl) (m_all rfl) (ls := [_, _, _, _]) rfl ?_
  refine mJ_iload_n dX7_at_0 rfl ?_
  refine mJ_sipush (v := 3000) dX7_at_1 rfl ?_
  refine mJ_cS2i dX7_at_4 e_X7_isWithin n_X7_67 ⟨Nat.le_of_ble_eq_true rfl, Nat.le_of_ble_eq_true rfl⟩ (Nat.le_of_ble_eq_true rfl) (C_X7_isWithin) ?_
  refine mJ_b2i (fun b_4 => ?_) (fun b_4 => ?_)
  · refine mJ_if_eq 20 dX7_at_7 rfl (fun c => absurd c (by decide)) (fun _ => ?_)
    refine mJ_iload_n dX7_at_10 rfl ?_
    refine mJ_sipush (v := 3000) dX7_at_11 rfl ?_
    refine mJ_cS2i dX7_at_14 e_X7_isWithin n_X7_67 ⟨Nat.le_of_ble_eq_true rfl, Nat.le_of_ble_eq_true rfl⟩ (Nat.le_of_ble_eq_true rfl) (C_X7_isWithin) ?_
    refine mJ_b2i (fun b_14 => ?_) (fun b_14 => ?_)
    · exact False.elim (by exact hb ⟨b_4, b_14⟩)
    · refine mJ_if_ne 24 dX7_at_17 rfl (fun c => absurd c (by decide)) (fun _ => ?_)
      refine mJ_sipush (v := (-10001)) dX7_at_20 rfl ?_
      exact mJ_iret dX7_at_23 rfl (rfl) (rfl)
  · refine mJ_if_eq 20 dX7_at_7 rfl (fun _ => ?_) (fun c => absurd c (by decide))
    refine mJ_sipush (v := (-10001)) dX7_at_20 rfl ?_
    exact mJ_iret dX7_at_23 rfl (rfl) (rfl)
set_option maxHeartbeats 4000000 in
set_option maxRecDepth 100000 in
theorem C_X7_at {C W : aF} {o n : Nat} {RS SD XS YS OR : aF} {shn : Int32} {T1 : tT} {P1 : tP} {Od : tO} {T2 : tT} {P2 : tP} {x y : Int32} (h1 : q_in x 3000) (h2 : q_in y 3000) {nH : Nat} (h5 : gG C 5 = nI nH) (hl : nH ≤ 12) : mCt k_X7_at [.ref 0, .int x, .int y] (cH C (W, nI o, nI n) (RS, SD, XS, YS, OR, shn) T1 P1 Od T2 P2) (some (.int (if fT (mP C RS XS YS x y 1 1) nH 0 < 0 then -10004 else fT (mP C RS XS YS x y 1 1) nH 0))) (cH C (W, nI o, nI n) (RS, SD, XS, YS, OR, shn) T1 P1 Od T2 P2) := by
  refine mCt_intro (plainFor_of_name rfl) (Nat.le_of_ble_eq_true rfl) (m_all rfl) (ls := [_, _, _, _]) rfl ?_
  refine mJ_iload_n dX7_at_0 rfl ?_
  refine mJ_sipush (v := 3000) dX7_at_1 rfl ?_
  refine mJ_cS2i dX7_at_4 e_X7_isWithin n_X7_67 ⟨Nat.le_of_ble_eq_true rfl, Nat.le_of_ble_eq_true rfl⟩ (Nat.le_of_ble_eq_true rfl) (C_X7_isWithin) ?_
  refine mJ_top (b2i_t h1) ?_
  refine mJ_if_eq 20 dX7_at_7 rfl (fun c => absurd c (by decide)) (fun _ => ?_)
  refine mJ_iload_n dX7_at_10 rfl ?_
  refine mJ_sipush (v := 3000) dX7_at_11 rfl ?_
  refine mJ_cS2i dX7_at_14 e_X7_isWithin n_X7_67 ⟨Nat.le_of_ble_eq_true rfl, Nat.le_of_ble_eq_true rfl⟩ (Nat.le_of_ble_eq_true rfl) (C_X7_isWithin) ?_
  refine mJ_top (b2i_t h2) ?_
  refine mJ_if_ne 24 dX7_at_17 rfl (fun _ => ?_) (fun c => absurd c (by decide))
  refine mJ_aload_n dX7_at_24 rfl ?_
  refine mJ_get dX7_at_25 f_X7_26 rfl rfl ?_
  refine mJ_aload_n dX7_at_28 rfl ?_
  refine mJ_get dX7_at_29 f_X7_12 rfl rfl ?_
  refine mJ_iload_n dX7_at_32 rfl ?_
  refine mJ_iload_n dX7_at_33 rfl ?_
  refine mJ_iconst (v := 1) dX7_at_34 rfl ?_
  refine mJ_iconst (v := 1) dX7_at_35 rfl ?_
  refine mJ_cV5i dX7_at_36 e_X4_shownThatMeets n_X7_205 ⟨Nat.le_of_ble_eq_true rfl, Nat.le_of_ble_eq_true rfl⟩ rfl rfl (Nat.le_of_ble_eq_true rfl) (C_X4_shownThatMeets h5 hl) ?_
  refine mJ_istore_n dX7_at_39 (Nat.le_of_ble_eq_true rfl) (ls2 := [_, _, _, _]) rfl ?_
  refine mJ_iload_n dX7_at_40 rfl ?_
  refine mJ_if_ge 50 dX7_at_41 rfl (fun c_41 => ?_) (fun c_41 => ?_)
  · refine mJ_iload_n dX7_at_50 rfl ?_
    exact mJ_iret dX7_at_51 rfl (by rw [if_neg (fun z => absurd c_41 (Int32.not_le.mpr z))]) (rfl)
  · refine mJ_sipush (v := (-10004)) dX7_at_44 rfl ?_
    refine mJ_goto 51 dX7_at_47 rfl ?_
    exact mJ_iret dX7_at_51 rfl (by rw [if_pos (by first | exact c_41 | exact Int32.not_le.mp c_41)]) (rfl)
set_option maxHeartbeats 4000000 in
set_option maxRecDepth 100000 in
theorem C_X7_sizeFor_bad {C W : aF} {o n : Nat} {RS SD XS YS OR : aF} {shn : Int32} {T1 : tT} {P1 : tP} {Od : tO} {T2 : tT} {P2 : tP} {h w : Int32} (hb : ¬ (q_hint C h ∧ ¬ w < 0 ∧ w ≤ 1)) : mCt k_X7_sizeFor [.ref 0, .int h, .int w] (cH C (W, nI o, nI n) (RS, SD, XS, YS, OR, shn) T1 P1 Od T2 P2) (some (.int (-10001))) (cH C (W, nI o, nI n) (RS, SD, XS, YS, OR, shn) T1 P1 Od T2 P2) := by
  refine mCt_intro (plainFor_of_name rfl) (Nat.le_of_ble_eq_true rfl) (m_all rfl) (ls := [_, _, _, _, _, _]) rfl ?_
  refine mJ_aload_n dX7_sizeFor_0 rfl ?_
  refine mJ_iload_n dX7_sizeFor_1 rfl ?_
  refine mJ_cV1i dX7_sizeFor_2 e_X7_isHint n_X7_140 ⟨Nat.le_of_ble_eq_true rfl, Nat.le_of_ble_eq_true rfl⟩ rfl rfl (Nat.le_of_ble_eq_true rfl) (C_X7_isHint) ?_
  refine mJ_b2i (fun b_2 => ?_) (fun b_2 => ?_)
  · refine mJ_if_eq 17 dX7_sizeFor_5 rfl (fun c => absurd c (by decide)) (fun _ => ?_)
    refine mJ_iload_n dX7_sizeFor_8 rfl ?_
    refine mJ_if_lt 17 dX7_sizeFor_9 rfl (fun c_9 => ?_) (fun c_9 => ?_)
    · refine mJ_sipush (v := (-10001)) dX7_sizeFor_17 rfl ?_
      exact mJ_iret dX7_sizeFor_20 rfl (rfl) (rfl)
    · refine mJ_iload_n dX7_sizeFor_12 rfl ?_
      refine mJ_iconst (v := 1) dX7_sizeFor_13 rfl ?_
      refine mJ_icmp_le 21 dX7_sizeFor_14 rfl (fun c_14 => False.elim (by exact hb ⟨b_2, c_9, c_14⟩)) (fun c_14 => ?_)
      refine mJ_sipush (v := (-10001)) dX7_sizeFor_17 rfl ?_
      exact mJ_iret dX7_sizeFor_20 rfl (rfl) (rfl)
  · refine mJ_if_eq 17 dX7_sizeFor_5 rfl (fun _ => ?_) (fun c => absurd c (by decide))
    refine mJ_sipush (v := (-10001)) dX7_sizeFor_17 rfl ?_
    exact mJ_iret dX7_sizeFor_20 rfl (rfl) (rfl)
noncomputable def cF (P : Nat → Prop) : Nat → Nat → Int32
  | 0, _ => -10004
  | m + 1, k => iif (P k) (nI k) (cF P m (k + 1))
set_option maxHeartbeats 4000000 in
set_option maxRecDepth 100000 in
theorem L_X7_sizeFor_0 {C W : aF} {o n : Nat} {RS SD XS YS OR : aF} {shn : Int32} {T1 : tT} {P1 : tP} {Od : tO} {T2 : tT} {L : List Int32} (hT : tL T2 L) {h : Int32} : ∀ (m k : Nat) (x4 x5 : Value) (P2 : tP), k + m = 401 → ∃ P2' : tP, mJ k_X7_sizeFor 36 [.ref 0, .int h, .int 0, .int (nI k), x4, x5] [] (cH C (W, nI o, nI n) (RS, SD, XS, YS, OR, shn) T1 P1 Od T2 P2) (some (.int (cF (fun k => ∃ s, s ∈ L ∧ f_in C h s (nI k) (gG C 3)) m k))) (cH C (W, nI o, nI n) (RS, SD, XS, YS, OR, shn) T1 P1 Od T2 (P2')) := by
  intro m
  induction m with
  | zero =>
    intro k x4 x5 P2 hk
    refine ⟨P2, ?_⟩
    refine mJ_iload_n dX7_sizeFor_36 rfl ?_
    refine mJ_sipush (v := 400) dX7_sizeFor_37 rfl ?_
    refine mJ_icmp_gt 100 dX7_sizeFor_40 rfl (fun c_40 => ?_) (fun c_40 => False.elim (by exact c_40 (nI_lt (a := 400) (show 400 < k by omega) (by omega))))
    refine mJ_sipush (v := (-10004)) dX7_sizeFor_100 rfl ?_
    exact mJ_iret dX7_sizeFor_103 rfl (rfl) (rfl)
  | succ m ih =>
    intro k x4 x5 P2 hk
    obtain ⟨P3, hs⟩ := C_X7_isInSightOnATry (C := C) (Hs := (W, nI o, nI n)) (Sw := (RS, SD, XS, YS, OR, shn)) (T1 := T1) (P1 := P1) (Od := Od) (P2 := P2) hT (v := h) (x := (nI k)) (y := (gG C 3))
    by_cases g : ∃ s, s ∈ L ∧ f_in C h s (nI k) (gG C 3)
    · rw [show cF (fun k => ∃ s, s ∈ L ∧ f_in C h s (nI k) (gG C 3)) (m + 1) k = nI k from iif_t g]
      refine ⟨P3, ?_⟩
      refine mJ_iload_n dX7_sizeFor_36 rfl ?_
      refine mJ_sipush (v := 400) dX7_sizeFor_37 rfl ?_
      refine mJ_icmp_gt 100 dX7_sizeFor_40 rfl (fun c_40 => False.elim (by exact nI_nlt (a := 400) (show k ≤ 400 by omega) (by omega) c_40)) (fun c_40 => ?_)
      refine mJ_iload_n dX7_sizeFor_43 rfl ?_
      refine mJ_if_ne 51 dX7_sizeFor_44 rfl (fun c => absurd c (by decide)) (fun _ => ?_)
      refine mJ_iload_n dX7_sizeFor_47 rfl ?_
      refine mJ_goto 59 dX7_sizeFor_48 rfl ?_
      refine mJ_istore dX7_sizeFor_59 (Nat.le_of_ble_eq_true rfl) (ls2 := [_, _, _, _, _, _]) rfl ?_
      refine mJ_iload_n dX7_sizeFor_61 rfl ?_
      refine mJ_iconst (v := 1) dX7_sizeFor_62 rfl ?_
      refine mJ_icmp_ne 70 dX7_sizeFor_63 rfl (fun _ => ?_) (fun c => absurd c (by decide))
      refine mJ_aload_n dX7_sizeFor_70 rfl ?_
      refine mJ_get dX7_sizeFor_71 f_X7_12 rfl rfl ?_
      refine mJ_iconst (v := 3) dX7_sizeFor_74 rfl ?_
      refine mJ_cV1i dX7_sizeFor_75 e_X5_get n_X7_80 ⟨Nat.le_of_ble_eq_true rfl, Nat.le_of_ble_eq_true rfl⟩ rfl rfl (Nat.le_of_ble_eq_true rfl) (C_X5_get) ?_
      refine mJ_istore dX7_sizeFor_78 (Nat.le_of_ble_eq_true rfl) (ls2 := [_, _, _, _, _, _]) rfl ?_
      refine mJ_aload_n dX7_sizeFor_80 rfl ?_
      refine mJ_iload_n dX7_sizeFor_81 rfl ?_
      refine mJ_iload dX7_sizeFor_82 rfl ?_
      refine mJ_iload dX7_sizeFor_84 rfl ?_
      refine mJ_cV3i dX7_sizeFor_86 e_X7_isInSightOnATry n_X7_213 ⟨Nat.le_of_ble_eq_true rfl, Nat.le_of_ble_eq_true rfl⟩ rfl rfl (Nat.le_of_ble_eq_true rfl) (hs) ?_
      refine mJ_top (b2i_t g) ?_
      refine mJ_if_eq 94 dX7_sizeFor_89 rfl (fun c => absurd c (by decide)) (fun _ => ?_)
      refine mJ_iload_n dX7_sizeFor_92 rfl ?_
      exact mJ_iret dX7_sizeFor_93 rfl (rfl) (rfl)
    · rw [show cF (fun k => ∃ s, s ∈ L ∧ f_in C h s (nI k) (gG C 3)) (m + 1) k = cF (fun k => ∃ s, s ∈ L ∧ f_in C h s (nI k) (gG C 3)) m (k + 1) from iif_f g]
      obtain ⟨P4, hj⟩ := ih (k + 1) (.int (nI k)) (.int (gG C 3)) P3 (by omega)
      refine ⟨P4, ?_⟩
      refine mJ_iload_n dX7_sizeFor_36 rfl ?_
      refine mJ_sipush (v := 400) dX7_sizeFor_37 rfl ?_
      refine mJ_icmp_gt 100 dX7_sizeFor_40 rfl (fun c_40 => False.elim (by exact nI_nlt (a := 400) (show k ≤ 400 by omega) (by omega) c_40)) (fun c_40 => ?_)
      refine mJ_iload_n dX7_sizeFor_43 rfl ?_
      refine mJ_if_ne 51 dX7_sizeFor_44 rfl (fun c => absurd c (by decide)) (fun _ => ?_)
      refine mJ_iload_n dX7_sizeFor_47 rfl ?_
      refine mJ_goto 59 dX7_sizeFor_48 rfl ?_
      refine mJ_istore dX7_sizeFor_59 (Nat.le_of_ble_eq_true rfl) (ls2 := [_, _, _, _, _, _]) rfl ?_
      refine mJ_iload_n dX7_sizeFor_61 rfl ?_
      refine mJ_iconst (v := 1) dX7_sizeFor_62 rfl ?_
      refine mJ_icmp_ne 70 dX7_sizeFor_63 rfl (fun _ => ?_) (fun c => absurd c (by decide))
      refine mJ_aload_n dX7_sizeFor_70 rfl ?_
      refine mJ_get dX7_sizeFor_71 f_X7_12 rfl rfl ?_
      refine mJ_iconst (v := 3) dX7_sizeFor_74 rfl ?_
      refine mJ_cV1i dX7_sizeFor_75 e_X5_get n_X7_80 ⟨Nat.le_of_ble_eq_true rfl, Nat.le_of_ble_eq_true rfl⟩ rfl rfl (Nat.le_of_ble_eq_true rfl) (C_X5_get) ?_
      refine mJ_istore dX7_sizeFor_78 (Nat.le_of_ble_eq_true rfl) (ls2 := [_, _, _, _, _, _]) rfl ?_
      refine mJ_aload_n dX7_sizeFor_80 rfl ?_
      refine mJ_iload_n dX7_sizeFor_81 rfl ?_
      refine mJ_iload dX7_sizeFor_82 rfl ?_
      refine mJ_iload dX7_sizeFor_84 rfl ?_
      refine mJ_cV3i dX7_sizeFor_86 e_X7_isInSightOnATry n_X7_213 ⟨Nat.le_of_ble_eq_true rfl, Nat.le_of_ble_eq_true rfl⟩ rfl rfl (Nat.le_of_ble_eq_true rfl) (hs) ?_
      refine mJ_top (b2i_f g) ?_
      refine mJ_if_eq 94 dX7_sizeFor_89 rfl (fun _ => ?_) (fun c => absurd c (by decide))
      refine mJ_iinc dX7_sizeFor_94 rfl (Nat.le_of_ble_eq_true rfl) (v := nI (k + 1)) (nI_1 k) (ls2 := [_, _, _, _, _, _]) rfl ?_
      refine mJ_goto 36 dX7_sizeFor_97 rfl ?_
      exact hj
set_option maxHeartbeats 4000000 in
set_option maxRecDepth 100000 in
theorem C_X7_sizeFor_0 {C W : aF} {o n : Nat} {RS SD XS YS OR : aF} {shn : Int32} {T1 : tT} {P1 : tP} {Od : tO} {T2 : tT} {P2 : tP} {L : List Int32} {h : Int32} (h1 : q_hint C h) (hT : ∀ a : aF, tL (trL (a, 0) (gH C h 9) (gH C h 3) (gH C h 5) (gS C 3)).1 L) : ∃ P2' : tP, mCt k_X7_sizeFor [.ref 0, .int h, .int 0] (cH C (W, nI o, nI n) (RS, SD, XS, YS, OR, shn) T1 P1 Od T2 P2) (some (.int (cF (fun k => ∃ s, s ∈ L ∧ f_in C h s (nI k) (gG C 3)) 381 20))) (cH C (W, nI o, nI n) (RS, SD, XS, YS, OR, shn) T1 P1 Od ((trL (T2.1, 0) (gH C h 9) (gH C h 3) (gH C h 5) (gS C 3)).1) (P2')) := by
  obtain ⟨P3, hj⟩ := L_X7_sizeFor_0 (C := C) (W := W) (o := o) (n := n) (RS := RS) (SD := SD) (XS := XS) (YS := YS) (OR := OR) (shn := shn) (T1 := T1) (P1 := P1) (Od := Od) (hT T2.1) (h := h) 381 20 .null .null P2 (by omega)
  refine ⟨P3, ?_⟩
  refine mCt_intro (plainFor_of_name rfl) (Nat.le_of_ble_eq_true rfl) (m_all rfl) (ls := [_, _, _, _, _, _]) rfl ?_
  refine mJ_aload_n dX7_sizeFor_0 rfl ?_
  refine mJ_iload_n dX7_sizeFor_1 rfl ?_
  refine mJ_cV1i dX7_sizeFor_2 e_X7_isHint n_X7_140 ⟨Nat.le_of_ble_eq_true rfl, Nat.le_of_ble_eq_true rfl⟩ rfl rfl (Nat.le_of_ble_eq_true rfl) (C_X7_isHint) ?_
  refine mJ_top (b2i_t h1) ?_
  refine mJ_if_eq 17 dX7_sizeFor_5 rfl (fun c => absurd c (by decide)) (fun _ => ?_)
  refine mJ_iload_n dX7_sizeFor_8 rfl ?_
  refine mJ_if_lt 17 dX7_sizeFor_9 rfl (fun c => absurd c (by decide)) (fun _ => ?_)
  refine mJ_iload_n dX7_sizeFor_12 rfl ?_
  refine mJ_iconst (v := 1) dX7_sizeFor_13 rfl ?_
  refine mJ_icmp_le 21 dX7_sizeFor_14 rfl (fun _ => ?_) (fun c => absurd c (by decide))
  refine mJ_aload_n dX7_sizeFor_21 rfl ?_
  refine mJ_get dX7_sizeFor_22 f_X7_40 rfl rfl ?_
  refine mJ_aload_n dX7_sizeFor_25 rfl ?_
  refine mJ_get dX7_sizeFor_26 f_X7_12 rfl rfl ?_
  refine mJ_iload_n dX7_sizeFor_29 rfl ?_
  refine mJ_cV2v dX7_sizeFor_30 e_X6_list n_X7_209 ⟨Nat.le_of_ble_eq_true rfl, Nat.le_of_ble_eq_true rfl⟩ rfl rfl (Nat.le_of_ble_eq_true rfl) (C_X6_list_25) ?_
  refine mJ_bipush (v := 20) dX7_sizeFor_33 rfl ?_
  refine mJ_istore_n dX7_sizeFor_35 (Nat.le_of_ble_eq_true rfl) (ls2 := [_, _, _, _, _, _]) rfl ?_
  exact hj
set_option maxHeartbeats 4000000 in
set_option maxRecDepth 100000 in
theorem L_X7_sizeFor_1 {C W : aF} {o n : Nat} {RS SD XS YS OR : aF} {shn : Int32} {T1 : tT} {P1 : tP} {Od : tO} {T2 : tT} {L : List Int32} (hT : tL T2 L) {h : Int32} : ∀ (m k : Nat) (x4 x5 : Value) (P2 : tP), k + m = 401 → ∃ P2' : tP, mJ k_X7_sizeFor 36 [.ref 0, .int h, .int 1, .int (nI k), x4, x5] [] (cH C (W, nI o, nI n) (RS, SD, XS, YS, OR, shn) T1 P1 Od T2 P2) (some (.int (cF (fun k => ∃ s, s ∈ L ∧ f_in C h s (gG C 2) (nI k)) m k))) (cH C (W, nI o, nI n) (RS, SD, XS, YS, OR, shn) T1 P1 Od T2 (P2')) := by
  intro m
  induction m with
  | zero =>
    intro k x4 x5 P2 hk
    refine ⟨P2, ?_⟩
    refine mJ_iload_n dX7_sizeFor_36 rfl ?_
    refine mJ_sipush (v := 400) dX7_sizeFor_37 rfl ?_
    refine mJ_icmp_gt 100 dX7_sizeFor_40 rfl (fun c_40 => ?_) (fun c_40 => False.elim (by exact c_40 (nI_lt (a := 400) (show 400 < k by omega) (by omega))))
    refine mJ_sipush (v := (-10004)) dX7_sizeFor_100 rfl ?_
    exact mJ_iret dX7_sizeFor_103 rfl (rfl) (rfl)
  | succ m ih =>
    intro k x4 x5 P2 hk
    obtain ⟨P3, hs⟩ := C_X7_isInSightOnATry (C := C) (Hs := (W, nI o, nI n)) (Sw := (RS, SD, XS, YS, OR, shn)) (T1 := T1) (P1 := P1) (Od := Od) (P2 := P2) hT (v := h) (x := (gG C 2)) (y := (nI k))
    by_cases g : ∃ s, s ∈ L ∧ f_in C h s (gG C 2) (nI k)
    · rw [show cF (fun k => ∃ s, s ∈ L ∧ f_in C h s (gG C 2) (nI k)) (m + 1) k = nI k from iif_t g]
      refine ⟨P3, ?_⟩
      refine mJ_iload_n dX7_sizeFor_36 rfl ?_
      refine mJ_sipush (v := 400) dX7_sizeFor_37 rfl ?_
      refine mJ_icmp_gt 100 dX7_sizeFor_40 rfl (fun c_40 => False.elim (by exact nI_nlt (a := 400) (show k ≤ 400 by omega) (by omega) c_40)) (fun c_40 => ?_)
      refine mJ_iload_n dX7_sizeFor_43 rfl ?_
      refine mJ_if_ne 51 dX7_sizeFor_44 rfl (fun _ => ?_) (fun c => absurd c (by decide))
      refine mJ_aload_n dX7_sizeFor_51 rfl ?_
      refine mJ_get dX7_sizeFor_52 f_X7_12 rfl rfl ?_
      refine mJ_iconst (v := 2) dX7_sizeFor_55 rfl ?_
      refine mJ_cV1i dX7_sizeFor_56 e_X5_get n_X7_80 ⟨Nat.le_of_ble_eq_true rfl, Nat.le_of_ble_eq_true rfl⟩ rfl rfl (Nat.le_of_ble_eq_true rfl) (C_X5_get) ?_
      refine mJ_istore dX7_sizeFor_59 (Nat.le_of_ble_eq_true rfl) (ls2 := [_, _, _, _, _, _]) rfl ?_
      refine mJ_iload_n dX7_sizeFor_61 rfl ?_
      refine mJ_iconst (v := 1) dX7_sizeFor_62 rfl ?_
      refine mJ_icmp_ne 70 dX7_sizeFor_63 rfl (fun c => absurd c (by decide)) (fun _ => ?_)
      refine mJ_iload_n dX7_sizeFor_66 rfl ?_
      refine mJ_goto 78 dX7_sizeFor_67 rfl ?_
      refine mJ_istore dX7_sizeFor_78 (Nat.le_of_ble_eq_true rfl) (ls2 := [_, _, _, _, _, _]) rfl ?_
      refine mJ_aload_n dX7_sizeFor_80 rfl ?_
      refine mJ_iload_n dX7_sizeFor_81 rfl ?_
      refine mJ_iload dX7_sizeFor_82 rfl ?_
      refine mJ_iload dX7_sizeFor_84 rfl ?_
      refine mJ_cV3i dX7_sizeFor_86 e_X7_isInSightOnATry n_X7_213 ⟨Nat.le_of_ble_eq_true rfl, Nat.le_of_ble_eq_true rfl⟩ rfl rfl (Nat.le_of_ble_eq_true rfl) (hs) ?_
      refine mJ_top (b2i_t g) ?_
      refine mJ_if_eq 94 dX7_sizeFor_89 rfl (fun c => absurd c (by decide)) (fun _ => ?_)
      refine mJ_iload_n dX7_sizeFor_92 rfl ?_
      exact mJ_iret dX7_sizeFor_93 rfl (rfl) (rfl)
    · rw [show cF (fun k => ∃ s, s ∈ L ∧ f_in C h s (gG C 2) (nI k)) (m + 1) k = cF (fun k => ∃ s, s ∈ L ∧ f_in C h s (gG C 2) (nI k)) m (k + 1) from iif_f g]
      obtain ⟨P4, hj⟩ := ih (k + 1) (.int (gG C 2)) (.int (nI k)) P3 (by omega)
      refine ⟨P4, ?_⟩
      refine mJ_iload_n dX7_sizeFor_36 rfl ?_
      refine mJ_sipush (v := 400) dX7_sizeFor_37 rfl ?_
      refine mJ_icmp_gt 100 dX7_sizeFor_40 rfl (fun c_40 => False.elim (by exact nI_nlt (a := 400) (show k ≤ 400 by omega) (by omega) c_40)) (fun c_40 => ?_)
      refine mJ_iload_n dX7_sizeFor_43 rfl ?_
      refine mJ_if_ne 51 dX7_sizeFor_44 rfl (fun _ => ?_) (fun c => absurd c (by decide))
      refine mJ_aload_n dX7_sizeFor_51 rfl ?_
      refine mJ_get dX7_sizeFor_52 f_X7_12 rfl rfl ?_
      refine mJ_iconst (v := 2) dX7_sizeFor_55 rfl ?_
      refine mJ_cV1i dX7_sizeFor_56 e_X5_get n_X7_80 ⟨Nat.le_of_ble_eq_true rfl, Nat.le_of_ble_eq_true rfl⟩ rfl rfl (Nat.le_of_ble_eq_true rfl) (C_X5_get) ?_
      refine mJ_istore dX7_sizeFor_59 (Nat.le_of_ble_eq_true rfl) (ls2 := [_, _, _, _, _, _]) rfl ?_
      refine mJ_iload_n dX7_sizeFor_61 rfl ?_
      refine mJ_iconst (v := 1) dX7_sizeFor_62 rfl ?_
      refine mJ_icmp_ne 70 dX7_sizeFor_63 rfl (fun c => absurd c (by decide)) (fun _ => ?_)
      refine mJ_iload_n dX7_sizeFor_66 rfl ?_
      refine mJ_goto 78 dX7_sizeFor_67 rfl ?_
      refine mJ_istore dX7_sizeFor_78 (Nat.le_of_ble_eq_true rfl) (ls2 := [_, _, _, _, _, _]) rfl ?_
      refine mJ_aload_n dX7_sizeFor_80 rfl ?_
      refine mJ_iload_n dX7_sizeFor_81 rfl ?_
      refine mJ_iload dX7_sizeFor_82 rfl ?_
      refine mJ_iload dX7_sizeFor_84 rfl ?_
      refine mJ_cV3i dX7_sizeFor_86 e_X7_isInSightOnATry n_X7_213 ⟨Nat.le_of_ble_eq_true rfl, Nat.le_of_ble_eq_true rfl⟩ rfl rfl (Nat.le_of_ble_eq_true rfl) (hs) ?_
      refine mJ_top (b2i_f g) ?_
      refine mJ_if_eq 94 dX7_sizeFor_89 rfl (fun _ => ?_) (fun c => absurd c (by decide))
      refine mJ_iinc dX7_sizeFor_94 rfl (Nat.le_of_ble_eq_true rfl) (v := nI (k + 1)) (nI_1 k) (ls2 := [_, _, _, _, _, _]) rfl ?_
      refine mJ_goto 36 dX7_sizeFor_97 rfl ?_
      exact hj
set_option maxHeartbeats 4000000 in
set_option maxRecDepth 100000 in
theorem C_X7_sizeFor_1 {C W : aF} {o n : Nat} {RS SD XS YS OR : aF} {shn : Int32} {T1 : tT} {P1 : tP} {Od : tO} {T2 : tT} {P2 : tP} {L : List Int32} {h : Int32} (h1 : q_hint C h) (hT : ∀ a : aF, tL (trL (a, 0) (gH C h 9) (gH C h 3) (gH C h 5) (gS C 3)).1 L) : ∃ P2' : tP, mCt k_X7_sizeFor [.ref 0, .int h, .int 1] (cH C (W, nI o, nI n) (RS, SD, XS, YS, OR, shn) T1 P1 Od T2 P2) (some (.int (cF (fun k => ∃ s, s ∈ L ∧ f_in C h s (gG C 2) (nI k)) 381 20))) (cH C (W, nI o, nI n) (RS, SD, XS, YS, OR, shn) T1 P1 Od ((trL (T2.1, 0) (gH C h 9) (gH C h 3) (gH C h 5) (gS C 3)).1) (P2')) := by
  obtain ⟨P3, hj⟩ := L_X7_sizeFor_1 (C := C) (W := W) (o := o) (n := n) (RS := RS) (SD := SD) (XS := XS) (YS := YS) (OR := OR) (shn := shn) (T1 := T1) (P1 := P1) (Od := Od) (hT T2.1) (h := h) 381 20 .null .null P2 (by omega)
  refine ⟨P3, ?_⟩
  refine mCt_intro (plainFor_of_name rfl) (Nat.le_of_ble_eq_true rfl) (m_all rfl) (ls := [_, _, _, _, _, _]) rfl ?_
  refine mJ_aload_n dX7_sizeFor_0 rfl ?_
  refine mJ_iload_n dX7_sizeFor_1 rfl ?_
  refine mJ_cV1i dX7_sizeFor_2 e_X7_isHint n_X7_140 ⟨Nat.le_of_ble_eq_true rfl, Nat.le_of_ble_eq_true rfl⟩ rfl rfl (Nat.le_of_ble_eq_true rfl) (C_X7_isHint) ?_
  refine mJ_top (b2i_t h1) ?_
  refine mJ_if_eq 17 dX7_sizeFor_5 rfl (fun c => absurd c (by decide)) (fun _ => ?_)
  refine mJ_iload_n dX7_sizeFor_8 rfl ?_
  refine mJ_if_lt 17 dX7_sizeFor_9 rfl (fun c => absurd c (by decide)) (fun _ => ?_)
  refine mJ_iload_n dX7_sizeFor_12 rfl ?_
  refine mJ_iconst (v := 1) dX7_sizeFor_13 rfl ?_
  refine mJ_icmp_le 21 dX7_sizeFor_14 rfl (fun _ => ?_) (fun c => absurd c (by decide))
  refine mJ_aload_n dX7_sizeFor_21 rfl ?_
  refine mJ_get dX7_sizeFor_22 f_X7_40 rfl rfl ?_
  refine mJ_aload_n dX7_sizeFor_25 rfl ?_
  refine mJ_get dX7_sizeFor_26 f_X7_12 rfl rfl ?_
  refine mJ_iload_n dX7_sizeFor_29 rfl ?_
  refine mJ_cV2v dX7_sizeFor_30 e_X6_list n_X7_209 ⟨Nat.le_of_ble_eq_true rfl, Nat.le_of_ble_eq_true rfl⟩ rfl rfl (Nat.le_of_ble_eq_true rfl) (C_X6_list_25) ?_
  refine mJ_bipush (v := 20) dX7_sizeFor_33 rfl ?_
  refine mJ_istore_n dX7_sizeFor_35 (Nat.le_of_ble_eq_true rfl) (ls2 := [_, _, _, _, _, _]) rfl ?_
  exact hj
