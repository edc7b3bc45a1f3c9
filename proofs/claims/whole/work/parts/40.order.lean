/-! ONE ORDER carried out: the class, the reference -/
set_option maxHeartbeats 4000000 in
set_option maxRecDepth 100000 in
theorem C_X7_carryOrder_o {C : aF} {Hs : tH} {RS SD XS YS OR : aF} {shn : Int32} {T1 : tT} {P1 : tP} {f : aF} {t : Nat} {bg en kd fi se nu : Int32} {T2 : tT} {P2 : tP} (hk : kd = 111) (h1 : q_hint C fi) (h2 : ¬ q_open C fi) : mCt k_X7_carryOrder [.ref 0] (cH C Hs (RS, SD, XS, YS, OR, shn) T1 P1 (f, nI t, bg, en, kd, fi, se, nu) T2 P2) (some (.int 1)) (cH (sH (sP C 6 (gG C 6 + 1)) fi 8 (gG C 6 + 1)) Hs (RS, SD, XS, YS, OR, shn) T1 P1 (f, nI t, bg, en, kd, fi, se, nu) T2 P2) := by
  refine mCt_intro (plainFor_of_name rfl) (Nat.le_of_ble_eq_true rfl) (m_all rfl) (ls := [_]) rfl ?_
  refine mJ_aload_n dX7_carryOrder_0 rfl ?_
  refine mJ_get dX7_carryOrder_1 f_X7_33 rfl rfl ?_
  refine mJ_get_22_4 dX7_carryOrder_4 f_X7_242 ?_
  refine mJ_top hk ?_
  refine mJ_lsw (off := 33) 40 dX7_carryOrder_7 (by decide) (by decide) rfl ?_
  refine mJ_aload_n dX7_carryOrder_40 rfl ?_
  refine mJ_aload_n dX7_carryOrder_41 rfl ?_
  refine mJ_get dX7_carryOrder_42 f_X7_33 rfl rfl ?_
  refine mJ_get_22_5 dX7_carryOrder_45 f_X7_245 ?_
  refine mJ_cV1i dX7_carryOrder_48 e_X7_isHint n_X7_140 ⟨Nat.le_of_ble_eq_true rfl, Nat.le_of_ble_eq_true rfl⟩ rfl rfl (Nat.le_of_ble_eq_true rfl) (C_X7_isHint) ?_
  refine mJ_top (b2i_t h1) ?_
  refine mJ_if_eq 71 dX7_carryOrder_51 rfl (fun c => absurd c (by decide)) (fun _ => ?_)
  refine mJ_aload_n dX7_carryOrder_54 rfl ?_
  refine mJ_get dX7_carryOrder_55 f_X7_12 rfl rfl ?_
  refine mJ_aload_n dX7_carryOrder_58 rfl ?_
  refine mJ_get dX7_carryOrder_59 f_X7_33 rfl rfl ?_
  refine mJ_get_22_5 dX7_carryOrder_62 f_X7_245 ?_
  refine mJ_cV1i dX7_carryOrder_65 e_X5_isOpen n_X7_149 ⟨Nat.le_of_ble_eq_true rfl, Nat.le_of_ble_eq_true rfl⟩ rfl rfl (Nat.le_of_ble_eq_true rfl) (C_X5_isOpen) ?_
  refine mJ_top (b2i_f h2) ?_
  refine mJ_if_eq 73 dX7_carryOrder_68 rfl (fun _ => ?_) (fun c => absurd c (by decide))
  refine mJ_aload_n dX7_carryOrder_73 rfl ?_
  refine mJ_aload_n dX7_carryOrder_74 rfl ?_
  refine mJ_get dX7_carryOrder_75 f_X7_33 rfl rfl ?_
  refine mJ_get_22_5 dX7_carryOrder_78 f_X7_245 ?_
  refine mJ_cV1v dX7_carryOrder_81 e_X7_openHint n_X7_152 ⟨Nat.le_of_ble_eq_true rfl, Nat.le_of_ble_eq_true rfl⟩ rfl rfl (Nat.le_of_ble_eq_true rfl) (C_X7_openHint) ?_
  refine mJ_iconst (v := 1) dX7_carryOrder_84 rfl ?_
  exact mJ_zret dX7_carryOrder_85 rfl (Or.inr rfl) (rfl) (rfl)
set_option maxHeartbeats 4000000 in
set_option maxRecDepth 100000 in
theorem C_X7_carryOrder_on {C : aF} {Hs : tH} {RS SD XS YS OR : aF} {shn : Int32} {T1 : tT} {P1 : tP} {f : aF} {t : Nat} {bg en kd fi se nu : Int32} {T2 : tT} {P2 : tP} (hk : kd = 111) (h1 : q_hint C fi) (h2 : q_open C fi) : mCt k_X7_carryOrder [.ref 0] (cH C Hs (RS, SD, XS, YS, OR, shn) T1 P1 (f, nI t, bg, en, kd, fi, se, nu) T2 P2) (some (.int 0)) (cH C Hs (RS, SD, XS, YS, OR, shn) T1 P1 (f, nI t, bg, en, kd, fi, se, nu) T2 P2) := by
  refine mCt_intro (plainFor_of_name rfl) (Nat.le_of_ble_eq_true rfl) (m_all rfl) (ls := [_]) rfl ?_
  refine mJ_aload_n dX7_carryOrder_0 rfl ?_
  refine mJ_get dX7_carryOrder_1 f_X7_33 rfl rfl ?_
  refine mJ_get_22_4 dX7_carryOrder_4 f_X7_242 ?_
  refine mJ_top hk ?_
  refine mJ_lsw (off := 33) 40 dX7_carryOrder_7 (by decide) (by decide) rfl ?_
  refine mJ_aload_n dX7_carryOrder_40 rfl ?_
  refine mJ_aload_n dX7_carryOrder_41 rfl ?_
  refine mJ_get dX7_carryOrder_42 f_X7_33 rfl rfl ?_
  refine mJ_get_22_5 dX7_carryOrder_45 f_X7_245 ?_
  refine mJ_cV1i dX7_carryOrder_48 e_X7_isHint n_X7_140 ⟨Nat.le_of_ble_eq_true rfl, Nat.le_of_ble_eq_true rfl⟩ rfl rfl (Nat.le_of_ble_eq_true rfl) (C_X7_isHint) ?_
  refine mJ_top (b2i_t h1) ?_
  refine mJ_if_eq 71 dX7_carryOrder_51 rfl (fun c => absurd c (by decide)) (fun _ => ?_)
  refine mJ_aload_n dX7_carryOrder_54 rfl ?_
  refine mJ_get dX7_carryOrder_55 f_X7_12 rfl rfl ?_
  refine mJ_aload_n dX7_carryOrder_58 rfl ?_
  refine mJ_get dX7_carryOrder_59 f_X7_33 rfl rfl ?_
  refine mJ_get_22_5 dX7_carryOrder_62 f_X7_245 ?_
  refine mJ_cV1i dX7_carryOrder_65 e_X5_isOpen n_X7_149 ⟨Nat.le_of_ble_eq_true rfl, Nat.le_of_ble_eq_true rfl⟩ rfl rfl (Nat.le_of_ble_eq_true rfl) (C_X5_isOpen) ?_
  refine mJ_top (b2i_t h2) ?_
  refine mJ_if_eq 73 dX7_carryOrder_68 rfl (fun c => absurd c (by decide)) (fun _ => ?_)
  refine mJ_iconst (v := 0) dX7_carryOrder_71 rfl ?_
  exact mJ_zret dX7_carryOrder_72 rfl (Or.inl rfl) (rfl) (rfl)
set_option maxHeartbeats 4000000 in
set_option maxRecDepth 100000 in
theorem C_X7_carryOrder_c {C : aF} {Hs : tH} {RS SD XS YS OR : aF} {shn : Int32} {T1 : tT} {P1 : tP} {f : aF} {t : Nat} {bg en kd fi se nu : Int32} {T2 : tT} {P2 : tP} (hk : kd = 99) (h1 : q_hint C fi) (h2 : q_open C fi) : mCt k_X7_carryOrder [.ref 0] (cH C Hs (RS, SD, XS, YS, OR, shn) T1 P1 (f, nI t, bg, en, kd, fi, se, nu) T2 P2) (some (.int 1)) (cH (sH (sH C fi 8 0) fi 9 (-1)) Hs (RS, SD, XS, YS, OR, shn) T1 P1 (f, nI t, bg, en, kd, fi, se, nu) T2 P2) := by
  refine mCt_intro (plainFor_of_name rfl) (Nat.le_of_ble_eq_true rfl) (m_all rfl) (ls := [_]) rfl ?_
  refine mJ_aload_n dX7_carryOrder_0 rfl ?_
  refine mJ_get dX7_carryOrder_1 f_X7_33 rfl rfl ?_
  refine mJ_get_22_4 dX7_carryOrder_4 f_X7_242 ?_
  refine mJ_top hk ?_
  refine mJ_lsw (off := 79) 86 dX7_carryOrder_7 (by decide) (by decide) rfl ?_
  refine mJ_aload_n dX7_carryOrder_86 rfl ?_
  refine mJ_aload_n dX7_carryOrder_87 rfl ?_
  refine mJ_get dX7_carryOrder_88 f_X7_33 rfl rfl ?_
  refine mJ_get_22_5 dX7_carryOrder_91 f_X7_245 ?_
  refine mJ_cV1i dX7_carryOrder_94 e_X7_isHint n_X7_140 ⟨Nat.le_of_ble_eq_true rfl, Nat.le_of_ble_eq_true rfl⟩ rfl rfl (Nat.le_of_ble_eq_true rfl) (C_X7_isHint) ?_
  refine mJ_top (b2i_t h1) ?_
  refine mJ_if_eq 117 dX7_carryOrder_97 rfl (fun c => absurd c (by decide)) (fun _ => ?_)
  refine mJ_aload_n dX7_carryOrder_100 rfl ?_
  refine mJ_get dX7_carryOrder_101 f_X7_12 rfl rfl ?_
  refine mJ_aload_n dX7_carryOrder_104 rfl ?_
  refine mJ_get dX7_carryOrder_105 f_X7_33 rfl rfl ?_
  refine mJ_get_22_5 dX7_carryOrder_108 f_X7_245 ?_
  refine mJ_cV1i dX7_carryOrder_111 e_X5_isOpen n_X7_149 ⟨Nat.le_of_ble_eq_true rfl, Nat.le_of_ble_eq_true rfl⟩ rfl rfl (Nat.le_of_ble_eq_true rfl) (C_X5_isOpen) ?_
  refine mJ_top (b2i_t h2) ?_
  refine mJ_if_ne 119 dX7_carryOrder_114 rfl (fun _ => ?_) (fun c => absurd c (by decide))
  refine mJ_aload_n dX7_carryOrder_119 rfl ?_
  refine mJ_aload_n dX7_carryOrder_120 rfl ?_
  refine mJ_get dX7_carryOrder_121 f_X7_33 rfl rfl ?_
  refine mJ_get_22_5 dX7_carryOrder_124 f_X7_245 ?_
  refine mJ_cV1v dX7_carryOrder_127 e_X7_closeHint n_X7_163 ⟨Nat.le_of_ble_eq_true rfl, Nat.le_of_ble_eq_true rfl⟩ rfl rfl (Nat.le_of_ble_eq_true rfl) (C_X7_closeHint) ?_
  refine mJ_iconst (v := 1) dX7_carryOrder_130 rfl ?_
  exact mJ_zret dX7_carryOrder_131 rfl (Or.inr rfl) (rfl) (rfl)
set_option maxHeartbeats 4000000 in
set_option maxRecDepth 100000 in
theorem C_X7_carryOrder_cn {C : aF} {Hs : tH} {RS SD XS YS OR : aF} {shn : Int32} {T1 : tT} {P1 : tP} {f : aF} {t : Nat} {bg en kd fi se nu : Int32} {T2 : tT} {P2 : tP} (hk : kd = 99) (h1 : q_hint C fi) (h2 : ¬ q_open C fi) : mCt k_X7_carryOrder [.ref 0] (cH C Hs (RS, SD, XS, YS, OR, shn) T1 P1 (f, nI t, bg, en, kd, fi, se, nu) T2 P2) (some (.int 0)) (cH C Hs (RS, SD, XS, YS, OR, shn) T1 P1 (f, nI t, bg, en, kd, fi, se, nu) T2 P2) := by
  refine mCt_intro (plainFor_of_name rfl) (Nat.le_of_ble_eq_true rfl) (m_all rfl) (ls := [_]) rfl ?_
  refine mJ_aload_n dX7_carryOrder_0 rfl ?_
  refine mJ_get dX7_carryOrder_1 f_X7_33 rfl rfl ?_
  refine mJ_get_22_4 dX7_carryOrder_4 f_X7_242 ?_
  refine mJ_top hk ?_
  refine mJ_lsw (off := 79) 86 dX7_carryOrder_7 (by decide) (by decide) rfl ?_
  refine mJ_aload_n dX7_carryOrder_86 rfl ?_
  refine mJ_aload_n dX7_carryOrder_87 rfl ?_
  refine mJ_get dX7_carryOrder_88 f_X7_33 rfl rfl ?_
  refine mJ_get_22_5 dX7_carryOrder_91 f_X7_245 ?_
  refine mJ_cV1i dX7_carryOrder_94 e_X7_isHint n_X7_140 ⟨Nat.le_of_ble_eq_true rfl, Nat.le_of_ble_eq_true rfl⟩ rfl rfl (Nat.le_of_ble_eq_true rfl) (C_X7_isHint) ?_
  refine mJ_top (b2i_t h1) ?_
  refine mJ_if_eq 117 dX7_carryOrder_97 rfl (fun c => absurd c (by decide)) (fun _ => ?_)
  refine mJ_aload_n dX7_carryOrder_100 rfl ?_
  refine mJ_get dX7_carryOrder_101 f_X7_12 rfl rfl ?_
  refine mJ_aload_n dX7_carryOrder_104 rfl ?_
  refine mJ_get dX7_carryOrder_105 f_X7_33 rfl rfl ?_
  refine mJ_get_22_5 dX7_carryOrder_108 f_X7_245 ?_
  refine mJ_cV1i dX7_carryOrder_111 e_X5_isOpen n_X7_149 ⟨Nat.le_of_ble_eq_true rfl, Nat.le_of_ble_eq_true rfl⟩ rfl rfl (Nat.le_of_ble_eq_true rfl) (C_X5_isOpen) ?_
  refine mJ_top (b2i_f h2) ?_
  refine mJ_if_ne 119 dX7_carryOrder_114 rfl (fun c => absurd c (by decide)) (fun _ => ?_)
  refine mJ_iconst (v := 0) dX7_carryOrder_117 rfl ?_
  exact mJ_zret dX7_carryOrder_118 rfl (Or.inl rfl) (rfl) (rfl)
set_option maxHeartbeats 4000000 in
set_option maxRecDepth 100000 in
theorem C_X7_carryOrder_v {C : aF} {Hs : tH} {RS SD XS YS OR : aF} {shn : Int32} {T1 : tT} {P1 : tP} {f : aF} {t : Nat} {bg en kd fi se nu : Int32} {T2 : tT} {P2 : tP} (hk : kd = 118) (h1 : q_cm C fi se) : mCt k_X7_carryOrder [.ref 0] (cH C Hs (RS, SD, XS, YS, OR, shn) T1 P1 (f, nI t, bg, en, kd, fi, se, nu) T2 P2) (some (.int 1)) (cH (sP (sP C 0 (gG C 0 + fi)) 1 (gG (sP C 0 (gG C 0 + fi)) 1 + se)) Hs (RS, SD, XS, YS, OR, shn) T1 P1 (f, nI t, bg, en, kd, fi, se, nu) T2 P2) := by
  refine mCt_intro (plainFor_of_name rfl) (Nat.le_of_ble_eq_true rfl) (m_all rfl) (ls := [_]) rfl ?_
  refine mJ_aload_n dX7_carryOrder_0 rfl ?_
  refine mJ_get dX7_carryOrder_1 f_X7_33 rfl rfl ?_
  refine mJ_get_22_4 dX7_carryOrder_4 f_X7_242 ?_
  refine mJ_top hk ?_
  refine mJ_lsw (off := 125) 132 dX7_carryOrder_7 (by decide) (by decide) rfl ?_
  refine mJ_aload_n dX7_carryOrder_132 rfl ?_
  refine mJ_aload_n dX7_carryOrder_133 rfl ?_
  refine mJ_get dX7_carryOrder_134 f_X7_33 rfl rfl ?_
  refine mJ_get_22_5 dX7_carryOrder_137 f_X7_245 ?_
  refine mJ_aload_n dX7_carryOrder_140 rfl ?_
  refine mJ_get dX7_carryOrder_141 f_X7_33 rfl rfl ?_
  refine mJ_get_22_6 dX7_carryOrder_144 f_X7_248 ?_
  refine mJ_cV2i dX7_carryOrder_147 e_X7_canMoveView n_X7_71 ⟨Nat.le_of_ble_eq_true rfl, Nat.le_of_ble_eq_true rfl⟩ rfl rfl (Nat.le_of_ble_eq_true rfl) (C_X7_canMoveView) ?_
  refine mJ_top (b2i_t h1) ?_
  refine mJ_if_ne 155 dX7_carryOrder_150 rfl (fun _ => ?_) (fun c => absurd c (by decide))
  refine mJ_aload_n dX7_carryOrder_155 rfl ?_
  refine mJ_aload_n dX7_carryOrder_156 rfl ?_
  refine mJ_get dX7_carryOrder_157 f_X7_33 rfl rfl ?_
  refine mJ_get_22_5 dX7_carryOrder_160 f_X7_245 ?_
  refine mJ_aload_n dX7_carryOrder_163 rfl ?_
  refine mJ_get dX7_carryOrder_164 f_X7_33 rfl rfl ?_
  refine mJ_get_22_6 dX7_carryOrder_167 f_X7_248 ?_
  refine mJ_cV2v dX7_carryOrder_170 e_X7_moveView n_X7_74 ⟨Nat.le_of_ble_eq_true rfl, Nat.le_of_ble_eq_true rfl⟩ rfl rfl (Nat.le_of_ble_eq_true rfl) (C_X7_moveView) ?_
  refine mJ_iconst (v := 1) dX7_carryOrder_173 rfl ?_
  exact mJ_zret dX7_carryOrder_174 rfl (Or.inr rfl) (rfl) (rfl)
set_option maxHeartbeats 4000000 in
set_option maxRecDepth 100000 in
theorem C_X7_carryOrder_vn {C : aF} {Hs : tH} {RS SD XS YS OR : aF} {shn : Int32} {T1 : tT} {P1 : tP} {f : aF} {t : Nat} {bg en kd fi se nu : Int32} {T2 : tT} {P2 : tP} (hk : kd = 118) (h1 : ¬ q_cm C fi se) : mCt k_X7_carryOrder [.ref 0] (cH C Hs (RS, SD, XS, YS, OR, shn) T1 P1 (f, nI t, bg, en, kd, fi, se, nu) T2 P2) (some (.int 0)) (cH C Hs (RS, SD, XS, YS, OR, shn) T1 P1 (f, nI t, bg, en, kd, fi, se, nu) T2 P2) := by
  refine mCt_intro (plainFor_of_name rfl) (Nat.le_of_ble_eq_true rfl) (m_all rfl) (ls := [_]) rfl ?_
  refine mJ_aload_n dX7_carryOrder_0 rfl ?_
  refine mJ_get dX7_carryOrder_1 f_X7_33 rfl rfl ?_
  refine mJ_get_22_4 dX7_carryOrder_4 f_X7_242 ?_
  refine mJ_top hk ?_
  refine mJ_lsw (off := 125) 132 dX7_carryOrder_7 (by decide) (by decide) rfl ?_
  refine mJ_aload_n dX7_carryOrder_132 rfl ?_
  refine mJ_aload_n dX7_carryOrder_133 rfl ?_
  refine mJ_get dX7_carryOrder_134 f_X7_33 rfl rfl ?_
  refine mJ_get_22_5 dX7_carryOrder_137 f_X7_245 ?_
  refine mJ_aload_n dX7_carryOrder_140 rfl ?_
  refine mJ_get dX7_carryOrder_141 f_X7_33 rfl rfl ?_
  refine mJ_get_22_6 dX7_carryOrder_144 f_X7_248 ?_
  refine mJ_cV2i dX7_carryOrder_147 e_X7_canMoveView n_X7_71 ⟨Nat.le_of_ble_eq_true rfl, Nat.le_of_ble_eq_true rfl⟩ rfl rfl (Nat.le_of_ble_eq_true rfl) (C_X7_canMoveView) ?_
  refine mJ_top (b2i_f h1) ?_
  refine mJ_if_ne 155 dX7_carryOrder_150 rfl (fun c => absurd c (by decide)) (fun _ => ?_)
  refine mJ_iconst (v := 0) dX7_carryOrder_153 rfl ?_
  exact mJ_zret dX7_carryOrder_154 rfl (Or.inl rfl) (rfl) (rfl)
set_option maxHeartbeats 4000000 in
set_option maxRecDepth 100000 in
theorem C_X7_carryOrder_t {C : aF} {Hs : tH} {RS SD XS YS OR : aF} {shn : Int32} {T1 : tT} {P1 : tP} {f : aF} {t : Nat} {bg en kd fi se nu : Int32} {T2 : tT} {P2 : tP} (hk : kd = 116) {nH : Nat} (h5 : ∀ k, k ≤ nH → gG (rmC C RS SD k) 5 = nI nH) (hl : nH ≤ 12) : mCt k_X7_carryOrder [.ref 0] (cH C Hs (RS, SD, XS, YS, OR, shn) T1 P1 (f, nI t, bg, en, kd, fi, se, nu) T2 P2) (some (.int 1)) (cH (rmC C RS SD nH) Hs (RS, SD, XS, YS, OR, shn) T1 P1 (f, nI t, bg, en, kd, fi, se, nu) T2 P2) := by
  refine mCt_intro (plainFor_of_name rfl) (Nat.le_of_ble_eq_true rfl) (m_all rfl) (ls := [_]) rfl ?_
  refine mJ_aload_n dX7_carryOrder_0 rfl ?_
  refine mJ_get dX7_carryOrder_1 f_X7_33 rfl rfl ?_
  refine mJ_get_22_4 dX7_carryOrder_4 f_X7_242 ?_
  refine mJ_top hk ?_
  refine mJ_lsw (off := 168) 175 dX7_carryOrder_7 (by decide) (by decide) rfl ?_
  refine mJ_aload_n dX7_carryOrder_175 rfl ?_
  refine mJ_cV0i dX7_carryOrder_176 e_X7_rememberSides n_X7_166 ⟨Nat.le_of_ble_eq_true rfl, Nat.le_of_ble_eq_true rfl⟩ rfl rfl (Nat.le_of_ble_eq_true rfl) (C_X7_rememberSides h5 hl) ?_
  refine mJ_pop dX7_carryOrder_179 rfl ?_
  refine mJ_iconst (v := 1) dX7_carryOrder_180 rfl ?_
  exact mJ_zret dX7_carryOrder_181 rfl (Or.inr rfl) (rfl) (rfl)
set_option maxHeartbeats 4000000 in
set_option maxRecDepth 100000 in
theorem C_X8_carries_o {d was text ord why son tri : aF} {sta typ at_ sig fst snd rea lef top shf arr goo shn trs : Int32} (hs : sig = 111) {k nO : Nat} (hn : snd = nI k) (hO : d 147 = nI nO) (hl : nO ≤ 12) (hl2 : nO < 12) (hp : pO d snd nO 0 = -1) : mCt k_X8_carries [.ref 0] (mH d was sta text typ at_ sig fst snd rea lef top shf arr goo ord why son shn tri trs) (some (.int 1)) (mH (upd (upd d (148 + nO) snd) 147 (nI (nO + 1))) was sta text typ at_ sig fst snd rea lef top shf arr goo ord why son shn tri trs) := by
  refine mCt_intro (plainFor_of_name rfl) (Nat.le_of_ble_eq_true rfl) (m_all rfl) (ls := [_, _]) rfl ?_
  refine mJ_aload_n dX8_carries_0 rfl ?_
  refine mJ_get dX8_carries_1 f_X8_172 rfl rfl ?_
  refine mJ_top hs ?_
  refine mJ_bipush (v := 111) dX8_carries_4 rfl ?_
  refine mJ_icmp_eq 18 dX8_carries_6 rfl (fun _ => ?_) (fun c => absurd c (by decide))
  refine mJ_aload_n dX8_carries_18 rfl ?_
  refine mJ_aload_n dX8_carries_19 rfl ?_
  refine mJ_get dX8_carries_20 f_X8_162 rfl rfl ?_
  refine mJ_cV1i dX8_carries_23 e_X8_placeOf n_X8_144 ⟨Nat.le_of_ble_eq_true rfl, Nat.le_of_ble_eq_true rfl⟩ rfl rfl (Nat.le_of_ble_eq_true rfl) (C_X8_placeOf hO hl) ?_
  refine mJ_goto 30 dX8_carries_26 rfl ?_
  refine mJ_istore_n dX8_carries_30 (Nat.le_of_ble_eq_true rfl) (ls2 := [_, _]) rfl ?_
  refine mJ_aload_n dX8_carries_31 rfl ?_
  refine mJ_get dX8_carries_32 f_X8_172 rfl rfl ?_
  refine mJ_top hs ?_
  refine mJ_lsw (off := 33) 68 dX8_carries_35 (by decide) (by decide) rfl ?_
  refine mJ_iload_n dX8_carries_68 rfl ?_
  refine mJ_iconst (v := (-1)) dX8_carries_69 rfl ?_
  refine mJ_icmp_eq 75 dX8_carries_70 rfl (fun c_70 => ?_) (fun c_70 => False.elim (by exact c_70 hp))
  refine mJ_aload_n dX8_carries_75 rfl ?_
  refine mJ_aload_n dX8_carries_76 rfl ?_
  refine mJ_get dX8_carries_77 f_X8_162 rfl rfl ?_
  refine mJ_cV1v dX8_carries_80 e_X8_opens n_X8_147 ⟨Nat.le_of_ble_eq_true rfl, Nat.le_of_ble_eq_true rfl⟩ rfl rfl (Nat.le_of_ble_eq_true rfl) (C_X8_opens hO hl2) ?_
  refine mJ_iconst (v := 1) dX8_carries_83 rfl ?_
  exact mJ_zret dX8_carries_84 rfl (Or.inr rfl) (rfl) (rfl)
set_option maxHeartbeats 4000000 in
set_option maxRecDepth 100000 in
theorem C_X8_carries_on {d was text ord why son tri : aF} {sta typ at_ sig fst snd rea lef top shf arr goo shn trs : Int32} (hs : sig = 111) {k nO : Nat} (hn : snd = nI k) (hO : d 147 = nI nO) (hl : nO ≤ 12) (hp : ¬ pO d snd nO 0 = -1) : mCt k_X8_carries [.ref 0] (mH d was sta text typ at_ sig fst snd rea lef top shf arr goo ord why son shn tri trs) (some (.int 0)) (mH d was sta text typ at_ sig fst snd rea lef top shf arr goo ord why son shn tri trs) := by
  refine mCt_intro (plainFor_of_name rfl) (Nat.le_of_ble_eq_true rfl) (m_all rfl) (ls := [_, _]) rfl ?_
  refine mJ_aload_n dX8_carries_0 rfl ?_
  refine mJ_get dX8_carries_1 f_X8_172 rfl rfl ?_
  refine mJ_top hs ?_
  refine mJ_bipush (v := 111) dX8_carries_4 rfl ?_
  refine mJ_icmp_eq 18 dX8_carries_6 rfl (fun _ => ?_) (fun c => absurd c (by decide))
  refine mJ_aload_n dX8_carries_18 rfl ?_
  refine mJ_aload_n dX8_carries_19 rfl ?_
  refine mJ_get dX8_carries_20 f_X8_162 rfl rfl ?_
  refine mJ_cV1i dX8_carries_23 e_X8_placeOf n_X8_144 ⟨Nat.le_of_ble_eq_true rfl, Nat.le_of_ble_eq_true rfl⟩ rfl rfl (Nat.le_of_ble_eq_true rfl) (C_X8_placeOf hO hl) ?_
  refine mJ_goto 30 dX8_carries_26 rfl ?_
  refine mJ_istore_n dX8_carries_30 (Nat.le_of_ble_eq_true rfl) (ls2 := [_, _]) rfl ?_
  refine mJ_aload_n dX8_carries_31 rfl ?_
  refine mJ_get dX8_carries_32 f_X8_172 rfl rfl ?_
  refine mJ_top hs ?_
  refine mJ_lsw (off := 33) 68 dX8_carries_35 (by decide) (by decide) rfl ?_
  refine mJ_iload_n dX8_carries_68 rfl ?_
  refine mJ_iconst (v := (-1)) dX8_carries_69 rfl ?_
  refine mJ_icmp_eq 75 dX8_carries_70 rfl (fun c_70 => False.elim (by exact hp c_70)) (fun c_70 => ?_)
  refine mJ_iconst (v := 0) dX8_carries_73 rfl ?_
  exact mJ_zret dX8_carries_74 rfl (Or.inl rfl) (rfl) (rfl)
set_option maxHeartbeats 4000000 in
set_option maxRecDepth 100000 in
theorem C_X8_carries_c {d was text ord why son tri : aF} {sta typ at_ sig fst snd rea lef top shf arr goo shn trs : Int32} (hs : sig = 99) {k p n1 : Nat} (hn : snd = nI k) (hk : k < 12) (hO : d 147 = nI (n1 + 1)) (hl : n1 + 1 ≤ 12) (hp2 : p ≤ n1) (hp : pO d snd (n1 + 1) 0 = nI p) : mCt k_X8_carries [.ref 0] (mH d was sta text typ at_ sig fst snd rea lef top shf arr goo ord why son shn tri trs) (some (.int 1)) (mH (upd (shO (upd d 147 (nI n1)) p (n1 - p)) (160 + k) (-1)) was sta text typ at_ sig fst snd rea lef top shf arr goo ord why son shn tri trs) := by
  subst hn
  refine mCt_intro (plainFor_of_name rfl) (Nat.le_of_ble_eq_true rfl) (m_all rfl) (ls := [_, _]) rfl ?_
  refine mJ_aload_n dX8_carries_0 rfl ?_
  refine mJ_get dX8_carries_1 f_X8_172 rfl rfl ?_
  refine mJ_top hs ?_
  refine mJ_bipush (v := 111) dX8_carries_4 rfl ?_
  refine mJ_icmp_eq 18 dX8_carries_6 rfl (fun c => absurd c (by decide)) (fun _ => ?_)
  refine mJ_aload_n dX8_carries_9 rfl ?_
  refine mJ_get dX8_carries_10 f_X8_172 rfl rfl ?_
  refine mJ_top hs ?_
  refine mJ_bipush (v := 99) dX8_carries_13 rfl ?_
  refine mJ_icmp_ne 29 dX8_carries_15 rfl (fun c => absurd c (by decide)) (fun _ => ?_)
  refine mJ_aload_n dX8_carries_18 rfl ?_
  refine mJ_aload_n dX8_carries_19 rfl ?_
  refine mJ_get dX8_carries_20 f_X8_162 rfl rfl ?_
  refine mJ_cV1i dX8_carries_23 e_X8_placeOf n_X8_144 ⟨Nat.le_of_ble_eq_true rfl, Nat.le_of_ble_eq_true rfl⟩ rfl rfl (Nat.le_of_ble_eq_true rfl) (C_X8_placeOf hO hl) ?_
  refine mJ_goto 30 dX8_carries_26 rfl ?_
  refine mJ_istore_n dX8_carries_30 (Nat.le_of_ble_eq_true rfl) (ls2 := [_, _]) rfl ?_
  refine mJ_aload_n dX8_carries_31 rfl ?_
  refine mJ_get dX8_carries_32 f_X8_172 rfl rfl ?_
  refine mJ_top hs ?_
  refine mJ_lsw (off := 50) 85 dX8_carries_35 (by decide) (by decide) rfl ?_
  refine mJ_iload_n dX8_carries_85 rfl ?_
  refine mJ_iconst (v := (-1)) dX8_carries_86 rfl ?_
  refine mJ_icmp_ne 92 dX8_carries_87 rfl (fun c_87 => ?_) (fun c_87 => False.elim (by rw [hp] at c_87; exact nI_neg1 (by omega) c_87))
  refine mJ_aload_n dX8_carries_92 rfl ?_
  refine mJ_aload_n dX8_carries_93 rfl ?_
  refine mJ_get dX8_carries_94 f_X8_162 rfl rfl ?_
  refine mJ_cV1v dX8_carries_97 e_X8_closes n_X8_150 ⟨Nat.le_of_ble_eq_true rfl, Nat.le_of_ble_eq_true rfl⟩ rfl rfl (Nat.le_of_ble_eq_true rfl) (C_X8_closes hO (by omega) hk hp2 hp) ?_
  refine mJ_iconst (v := 1) dX8_carries_100 rfl ?_
  exact mJ_zret dX8_carries_101 rfl (Or.inr rfl) (rfl) (rfl)
set_option maxHeartbeats 4000000 in
set_option maxRecDepth 100000 in
theorem C_X8_carries_cn {d was text ord why son tri : aF} {sta typ at_ sig fst snd rea lef top shf arr goo shn trs : Int32} (hs : sig = 99) {k nO : Nat} (hn : snd = nI k) (hO : d 147 = nI nO) (hl : nO ≤ 12) (hp : pO d snd nO 0 = -1) : mCt k_X8_carries [.ref 0] (mH d was sta text typ at_ sig fst snd rea lef top shf arr goo ord why son shn tri trs) (some (.int 0)) (mH d was sta text typ at_ sig fst snd rea lef top shf arr goo ord why son shn tri trs) := by
  refine mCt_intro (plainFor_of_name rfl) (Nat.le_of_ble_eq_true rfl) (m_all rfl) (ls := [_, _]) rfl ?_
  refine mJ_aload_n dX8_carries_0 rfl ?_
  refine mJ_get dX8_carries_1 f_X8_172 rfl rfl ?_
  refine mJ_top hs ?_
  refine mJ_bipush (v := 111) dX8_carries_4 rfl ?_
  refine mJ_icmp_eq 18 dX8_carries_6 rfl (fun c => absurd c (by decide)) (fun _ => ?_)
  refine mJ_aload_n dX8_carries_9 rfl ?_
  refine mJ_get dX8_carries_10 f_X8_172 rfl rfl ?_
  refine mJ_top hs ?_
  refine mJ_bipush (v := 99) dX8_carries_13 rfl ?_
  refine mJ_icmp_ne 29 dX8_carries_15 rfl (fun c => absurd c (by decide)) (fun _ => ?_)
  refine mJ_aload_n dX8_carries_18 rfl ?_
  refine mJ_aload_n dX8_carries_19 rfl ?_
  refine mJ_get dX8_carries_20 f_X8_162 rfl rfl ?_
  refine mJ_cV1i dX8_carries_23 e_X8_placeOf n_X8_144 ⟨Nat.le_of_ble_eq_true rfl, Nat.le_of_ble_eq_true rfl⟩ rfl rfl (Nat.le_of_ble_eq_true rfl) (C_X8_placeOf hO hl) ?_
  refine mJ_goto 30 dX8_carries_26 rfl ?_
  refine mJ_istore_n dX8_carries_30 (Nat.le_of_ble_eq_true rfl) (ls2 := [_, _]) rfl ?_
  refine mJ_aload_n dX8_carries_31 rfl ?_
  refine mJ_get dX8_carries_32 f_X8_172 rfl rfl ?_
  refine mJ_top hs ?_
  refine mJ_lsw (off := 50) 85 dX8_carries_35 (by decide) (by decide) rfl ?_
  refine mJ_iload_n dX8_carries_85 rfl ?_
  refine mJ_iconst (v := (-1)) dX8_carries_86 rfl ?_
  refine mJ_icmp_ne 92 dX8_carries_87 rfl (fun c_87 => False.elim (by exact c_87 hp)) (fun c_87 => ?_)
  refine mJ_iconst (v := 0) dX8_carries_90 rfl ?_
  exact mJ_zret dX8_carries_91 rfl (Or.inl rfl) (rfl) (rfl)
set_option maxHeartbeats 4000000 in
set_option maxRecDepth 100000 in
theorem C_X8_carries_v {d was text ord why son tri : aF} {sta typ at_ sig fst snd rea lef top shf arr goo shn trs : Int32} (hs : sig = 118) (h1 : q_cs d fst snd) : mCt k_X8_carries [.ref 0] (mH d was sta text typ at_ sig fst snd rea lef top shf arr goo ord why son shn tri trs) (some (.int 1)) (mH (upd (upd d 0 (d 0 + fst)) 1 (d 1 + snd)) was sta text typ at_ sig fst snd rea lef top shf arr goo ord why son shn tri trs) := by
  refine mCt_intro (plainFor_of_name rfl) (Nat.le_of_ble_eq_true rfl) (m_all rfl) (ls := [_, _]) rfl ?_
  refine mJ_aload_n dX8_carries_0 rfl ?_
  refine mJ_get dX8_carries_1 f_X8_172 rfl rfl ?_
  refine mJ_top hs ?_
  refine mJ_bipush (v := 111) dX8_carries_4 rfl ?_
  refine mJ_icmp_eq 18 dX8_carries_6 rfl (fun c => absurd c (by decide)) (fun _ => ?_)
  refine mJ_aload_n dX8_carries_9 rfl ?_
  refine mJ_get dX8_carries_10 f_X8_172 rfl rfl ?_
  refine mJ_top hs ?_
  refine mJ_bipush (v := 99) dX8_carries_13 rfl ?_
  refine mJ_icmp_ne 29 dX8_carries_15 rfl (fun _ => ?_) (fun c => absurd c (by decide))
  refine mJ_iconst (v := (-1)) dX8_carries_29 rfl ?_
  refine mJ_istore_n dX8_carries_30 (Nat.le_of_ble_eq_true rfl) (ls2 := [_, _]) rfl ?_
  refine mJ_aload_n dX8_carries_31 rfl ?_
  refine mJ_get dX8_carries_32 f_X8_172 rfl rfl ?_
  refine mJ_top hs ?_
  refine mJ_lsw (off := 67) 102 dX8_carries_35 (by decide) (by decide) rfl ?_
  refine mJ_aload_n dX8_carries_102 rfl ?_
  refine mJ_aload_n dX8_carries_103 rfl ?_
  refine mJ_get dX8_carries_104 f_X8_179 rfl rfl ?_
  refine mJ_aload_n dX8_carries_107 rfl ?_
  refine mJ_get dX8_carries_108 f_X8_162 rfl rfl ?_
  refine mJ_cV2i dX8_carries_111 e_X8_canScroll n_X8_122 ⟨Nat.le_of_ble_eq_true rfl, Nat.le_of_ble_eq_true rfl⟩ rfl rfl (Nat.le_of_ble_eq_true rfl) (C_X8_canScroll) ?_
  refine mJ_top (b2i_t h1) ?_
  refine mJ_if_ne 119 dX8_carries_114 rfl (fun _ => ?_) (fun c => absurd c (by decide))
  refine mJ_aload_n dX8_carries_119 rfl ?_
  refine mJ_get dX8_carries_120 f_X8_7 rfl rfl ?_
  refine mJ_iconst (v := 0) dX8_carries_123 rfl ?_
  refine mJ_dup2 dX8_carries_124 rfl rfl ?_
  refine mJ_ialdN dX8_carries_125 rfl (j := 0) ⟨rfl, by decide, by decide⟩ ?_
  refine mJ_aload_n dX8_carries_126 rfl ?_
  refine mJ_get dX8_carries_127 f_X8_179 rfl rfl ?_
  refine mJ_iadd dX8_carries_130 ?_
  refine mJ_iastN dX8_carries_131 rfl (j := 0) ⟨rfl, by decide, by decide⟩ (h2 := mH _ _ _ _ _ _ _ _ _ _ _ _ _ _ _ _ _ _ _ _ _) rfl ?_
  refine mJ_aload_n dX8_carries_132 rfl ?_
  refine mJ_get dX8_carries_133 f_X8_7 rfl rfl ?_
  refine mJ_iconst (v := 1) dX8_carries_136 rfl ?_
  refine mJ_dup2 dX8_carries_137 rfl rfl ?_
  refine mJ_ialdN dX8_carries_138 rfl (j := 1) ⟨rfl, by decide, by decide⟩ ?_
  refine mJ_aload_n dX8_carries_139 rfl ?_
  refine mJ_get dX8_carries_140 f_X8_162 rfl rfl ?_
  refine mJ_iadd dX8_carries_143 ?_
  refine mJ_iastN dX8_carries_144 rfl (j := 1) ⟨rfl, by decide, by decide⟩ (h2 := mH _ _ _ _ _ _ _ _ _ _ _ _ _ _ _ _ _ _ _ _ _) rfl ?_
  refine mJ_iconst (v := 1) dX8_carries_145 rfl ?_
  exact mJ_zret dX8_carries_146 rfl (Or.inr rfl) (rfl) (rfl)
set_option maxHeartbeats 4000000 in
set_option maxRecDepth 100000 in
theorem C_X8_carries_vn {d was text ord why son tri : aF} {sta typ at_ sig fst snd rea lef top shf arr goo shn trs : Int32} (hs : sig = 118) (h1 : ¬ q_cs d fst snd) : mCt k_X8_carries [.ref 0] (mH d was sta text typ at_ sig fst snd rea lef top shf arr goo ord why son shn tri trs) (some (.int 0)) (mH d was sta text typ at_ sig fst snd rea lef top shf arr goo ord why son shn tri trs) := by
  refine mCt_intro (plainFor_of_name rfl) (Nat.le_of_ble_eq_true rfl) (m_all rfl) (ls := [_, _]) rfl ?_
  refine mJ_aload_n dX8_carries_0 rfl ?_
  refine mJ_get dX8_carries_1 f_X8_172 rfl rfl ?_
  refine mJ_top hs ?_
  refine mJ_bipush (v := 111) dX8_carries_4 rfl ?_
  refine mJ_icmp_eq 18 dX8_carries_6 rfl (fun c => absurd c (by decide)) (fun _ => ?_)
  refine mJ_aload_n dX8_carries_9 rfl ?_
  refine mJ_get dX8_carries_10 f_X8_172 rfl rfl ?_
  refine mJ_top hs ?_
  refine mJ_bipush (v := 99) dX8_carries_13 rfl ?_
  refine mJ_icmp_ne 29 dX8_carries_15 rfl (fun _ => ?_) (fun c => absurd c (by decide))
  refine mJ_iconst (v := (-1)) dX8_carries_29 rfl ?_
  refine mJ_istore_n dX8_carries_30 (Nat.le_of_ble_eq_true rfl) (ls2 := [_, _]) rfl ?_
  refine mJ_aload_n dX8_carries_31 rfl ?_
  refine mJ_get dX8_carries_32 f_X8_172 rfl rfl ?_
  refine mJ_top hs ?_
  refine mJ_lsw (off := 67) 102 dX8_carries_35 (by decide) (by decide) rfl ?_
  refine mJ_aload_n dX8_carries_102 rfl ?_
  refine mJ_aload_n dX8_carries_103 rfl ?_
  refine mJ_get dX8_carries_104 f_X8_179 rfl rfl ?_
  refine mJ_aload_n dX8_carries_107 rfl ?_
  refine mJ_get dX8_carries_108 f_X8_162 rfl rfl ?_
  refine mJ_cV2i dX8_carries_111 e_X8_canScroll n_X8_122 ⟨Nat.le_of_ble_eq_true rfl, Nat.le_of_ble_eq_true rfl⟩ rfl rfl (Nat.le_of_ble_eq_true rfl) (C_X8_canScroll) ?_
  refine mJ_top (b2i_f h1) ?_
  refine mJ_if_ne 119 dX8_carries_114 rfl (fun c => absurd c (by decide)) (fun _ => ?_)
  refine mJ_iconst (v := 0) dX8_carries_117 rfl ?_
  exact mJ_zret dX8_carries_118 rfl (Or.inl rfl) (rfl) (rfl)
set_option maxHeartbeats 4000000 in
set_option maxRecDepth 100000 in
theorem C_X8_carries_t {d was text ord why son tri : aF} {sta typ at_ sig fst snd rea lef top shf arr goo shn trs : Int32} {nA nH nO : Nat} (hs : sig = 116) (hw : wD d nA nH nO) (hi : wI d nO) : ∃ (lef' top' shf' arr' goo' : Int32) (ord' why' son' tri' : aF) (trs' : Int32), mCt k_X8_carries [.ref 0] (mH d was sta text typ at_ sig fst snd rea lef top shf arr goo ord why son shn tri trs) (some (.int 1)) (mH (rmb d (p_all d nA nH nO).2.1 nH) (was) (sta) text typ at_ sig fst snd rea (lef') (top') (shf') (arr') (goo') (ord') (why') (son') ((p_all (d) nA nH nO).2.2) (tri') (trs')) := by
  obtain ⟨l1, t1, s1, a1, o1, d1, y1, n1, r1, z1, hj⟩ := C_X8_settles (d := d) (was := was) (sta := sta) (text := text) (typ := typ) (at_ := at_) (sig := sig) (fst := fst) (snd := snd) (rea := rea) (lef := lef) (top := top) (shf := shf) (arr := arr) (goo := goo) (ord := ord) (why := why) (son := son) (shn := shn) (tri := tri) (trs := trs) hw hi
  refine ⟨l1, t1, s1, a1, o1, d1, y1, n1, r1, z1, ?_⟩
  refine mCt_intro (plainFor_of_name rfl) (Nat.le_of_ble_eq_true rfl) (m_all rfl) (ls := [_, _]) rfl ?_
  refine mJ_aload_n dX8_carries_0 rfl ?_
  refine mJ_get dX8_carries_1 f_X8_172 rfl rfl ?_
  refine mJ_top hs ?_
  refine mJ_bipush (v := 111) dX8_carries_4 rfl ?_
  refine mJ_icmp_eq 18 dX8_carries_6 rfl (fun c => absurd c (by decide)) (fun _ => ?_)
  refine mJ_aload_n dX8_carries_9 rfl ?_
  refine mJ_get dX8_carries_10 f_X8_172 rfl rfl ?_
  refine mJ_top hs ?_
  refine mJ_bipush (v := 99) dX8_carries_13 rfl ?_
  refine mJ_icmp_ne 29 dX8_carries_15 rfl (fun _ => ?_) (fun c => absurd c (by decide))
  refine mJ_iconst (v := (-1)) dX8_carries_29 rfl ?_
  refine mJ_istore_n dX8_carries_30 (Nat.le_of_ble_eq_true rfl) (ls2 := [_, _]) rfl ?_
  refine mJ_aload_n dX8_carries_31 rfl ?_
  refine mJ_get dX8_carries_32 f_X8_172 rfl rfl ?_
  refine mJ_top hs ?_
  refine mJ_lsw (off := 112) 147 dX8_carries_35 (by decide) (by decide) rfl ?_
  refine mJ_aload_n dX8_carries_147 rfl ?_
  refine mJ_cV0i dX8_carries_148 e_X8_settles n_X8_153 ⟨Nat.le_of_ble_eq_true rfl, Nat.le_of_ble_eq_true rfl⟩ rfl rfl (Nat.le_of_ble_eq_true rfl) (hj) ?_
  refine mJ_pop dX8_carries_151 rfl ?_
  refine mJ_iconst (v := 1) dX8_carries_152 rfl ?_
  exact mJ_zret dX8_carries_153 rfl (Or.inr rfl) (rfl) (rfl)
theorem xO_2 {f : aF} {n p : Nat} {k a b : Int32} {q : Nat} (h : xO f n p = some (k, a, b, q)) : p + 2 ≤ q := by
  unfold xO at h
  by_cases k1 : xS f n p = 99 ∨ xS f n p = 111
  · rw [if_pos k1] at h
    by_cases g : 0 < tC f n 2 (p + 1) ∧ xS f n (p + 1 + tC f n 2 (p + 1)) = 59
    · rw [if_pos g] at h; cases h; omega
    · rw [if_neg g] at h; cases h
  · rw [if_neg k1] at h
    by_cases k2 : xS f n p = 118
    · rw [if_pos k2] at h
      by_cases g : 0 < (tSg f n (p + 1)).1 ∧ xS f n (tSg f n (p + 1)).2.2 = 44 ∧ 0 < (tSg f n ((tSg f n (p + 1)).2.2 + 1)).1 ∧ xS f n (tSg f n ((tSg f n (p + 1)).2.2 + 1)).2.2 = 59
      · rw [if_pos g] at h
        have t1 := tSg_ge f n (p + 1)
        have t2 := tSg_ge f n ((tSg f n (p + 1)).2.2 + 1)
        cases h; omega
      · rw [if_neg g] at h; cases h
    · rw [if_neg k2] at h
      by_cases k3 : xS f n p = 116
      · rw [if_pos k3] at h
        by_cases g : xS f n (p + 1) = 59
        · rw [if_pos g] at h; cases h; omega
        · rw [if_neg g] at h; cases h
      · rw [if_neg k3] at h; cases h
