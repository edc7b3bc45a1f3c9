/-! THE REFERENCE: its row d, a hint's place in it -/
def dA (d : aF) (a k : Nat) : Int32 := d (10 + 10 * k + a)
def dH (d : aF) (h k : Nat) : Int32 := d (51 + 12 * k + h)
def q_rg (v lo hi : Int32) : Prop := ¬ v < lo ∧ ¬ hi < v
def q_mt (x y w h ox oy ow oh : Int32) : Prop := (¬ ox + ow ≤ x ∧ ¬ x + w ≤ ox) ∧ (¬ oy + oh ≤ y ∧ ¬ y + h ≤ oy)
def q_sn (d : aF) (a : Nat) : Prop := q_mt (dA d a 0) (dA d a 1) (dA d a 2) (dA d a 3) (d 0) (d 1) (d 2) (d 3)
def v_half (v : Int32) : Int32 := if v < 0 then -((1 - v) / 2) else v / 2
def v_by (b l fr sz : Int32) : Int32 := if fr ≤ b then (if b + l ≤ fr + sz then 0 else fr + sz - l - b) else fr - b
noncomputable def v_ms (m b l p fr sz : Int32) : Int32 := if l ≤ sz then iif (q_gd p l m) (if v_by b l fr sz ≤ p - m then (if p - (l - 1 - m) ≤ v_by b l fr sz then v_by b l fr sz else p - (l - 1 - m)) else p - m) (v_by b l fr sz) else 0
def p_an (d : aF) (h : Nat) : Nat := (dH d h 0).toNatClampNeg
noncomputable def p_bg (d : aF) (h : Nat) (s : Int32) : Int32 := iif (q_lv s) (dA d (p_an d h) 0) (dA d (p_an d h) 1)
noncomputable def p_sz (d : aF) (h : Nat) (s : Int32) : Int32 := iif (q_lv s) (dA d (p_an d h) 2) (dA d (p_an d h) 3)
noncomputable def p_ln (d : aF) (h : Nat) (s : Int32) : Int32 := iif (q_lv s) (dH d h 1) (dH d h 2)
noncomputable def p_b0 (d : aF) (h : Nat) (s : Int32) : Int32 := if dH d h 4 = 0 then p_bg d h s else if dH d h 4 = 1 then p_bg d h s + v_half (p_sz d h s - p_ln d h s) else p_bg d h s + p_sz d h s - p_ln d h s
noncomputable def p_a0 (d : aF) (h : Nat) (s : Int32) : Int32 := p_bg d h s + p_sz d h s / 2 - p_b0 d h s
noncomputable def p_sh (d : aF) (h : Nat) (s : Int32) : Int32 := if dH d h 6 = 1 then v_ms (d 5) (p_b0 d h s) (p_ln d h s) (p_a0 d h s) (iif (q_lv s) (d 0) (d 1)) (iif (q_lv s) (d 2) (d 3)) else 0
noncomputable def p_ar (d : aF) (h : Nat) (s : Int32) : Int32 := p_a0 d h s - p_sh d h s
def p_gd (d : aF) (h : Nat) (s : Int32) : Prop := q_gd (p_ar d h s) (p_ln d h s) (d 5)
noncomputable def p_al (d : aF) (h : Nat) (s : Int32) : Int32 := p_b0 d h s + p_sh d h s
noncomputable def p_x (d : aF) (h : Nat) (s : Int32) : Int32 := iif (q_lv s) (p_al d h s) (iif (q_bf s) (dA d (p_an d h) 0 - d 4 - dH d h 1) (dA d (p_an d h) 0 + dA d (p_an d h) 2 + d 4))
noncomputable def p_y (d : aF) (h : Nat) (s : Int32) : Int32 := iif (q_lv s) (iif (q_bf s) (dA d (p_an d h) 1 - d 4 - dH d h 2) (dA d (p_an d h) 1 + dA d (p_an d h) 3 + d 4)) (p_al d h s)
def p_in (d : aF) (h : Nat) (s : Int32) : Prop := q_sl (p_x d h s) (dH d h 1) (d 0) (d 2) ∧ q_sl (p_y d h s) (dH d h 2) (d 1) (d 3)
theorem iif_lv0 {a b : Int32} : iif (q_lv 0) a b = a := iif_t (Or.inl rfl)
theorem iif_lv1 {a b : Int32} : iif (q_lv 1) a b = b := iif_f (fun z => by rcases z with z | z <;> exact absurd z (by decide))
theorem iif_lv2 {a b : Int32} : iif (q_lv 2) a b = a := iif_t (Or.inr rfl)
theorem iif_lv3 {a b : Int32} : iif (q_lv 3) a b = b := iif_f (fun z => by rcases z with z | z <;> exact absurd z (by decide))
theorem iif_bf0 {a b : Int32} : iif (q_bf 0) a b = a := iif_t (Or.inl rfl)
theorem iif_bf1 {a b : Int32} : iif (q_bf 1) a b = b := iif_f (fun z => by rcases z with z | z <;> exact absurd z (by decide))
theorem iif_bf2 {a b : Int32} : iif (q_bf 2) a b = b := iif_f (fun z => by rcases z with z | z <;> exact absurd z (by decide))
theorem iif_bf3 {a b : Int32} : iif (q_bf 3) a b = a := iif_t (Or.inr rfl)
theorem p_an_of {d : aF} {h a : Nat} (e : dH d h 0 = nI a) (ha : a < 10) : p_an d h = a := by unfold p_an; rw [e, nI_clamp (by omega)]
set_option maxHeartbeats 4000000 in
set_option maxRecDepth 100000 in
theorem C_X8_in {d was text ord why son tri : aF} {sta typ at_ sig fst snd rea lef top shf arr goo shn trs : Int32} {v lo hi : Int32} : mCt k_X8_in [.int v, .int lo, .int hi] (mH d was sta text typ at_ sig fst snd rea lef top shf arr goo ord why son shn tri trs) (some (.int (b2i (q_rg v lo hi)))) (mH d was sta text typ at_ sig fst snd rea lef top shf arr goo ord why son shn tri trs) := by
  refine mCt_intro (plainFor_of_name rfl) (Nat.le_of_ble_eq_true rfl) (m_all rfl) (ls := [_, _, _]) rfl ?_
  refine mJ_iload_n dX8_in_0 rfl ?_
  refine mJ_iload_n dX8_in_1 rfl ?_
  refine mJ_icmp_lt 14 dX8_in_2 rfl (fun c_2 => ?_) (fun c_2 => ?_)
  · refine mJ_iconst (v := 0) dX8_in_14 rfl ?_
    exact mJ_zret dX8_in_15 rfl (Or.inl rfl) (by first | exact z_t (by simp_all [q_rg]) | exact z_f (by simp_all [q_rg])) (rfl)
  · refine mJ_iload_n dX8_in_5 rfl ?_
    refine mJ_iload_n dX8_in_6 rfl ?_
    refine mJ_icmp_gt 14 dX8_in_7 rfl (fun c_7 => ?_) (fun c_7 => ?_)
    · refine mJ_iconst (v := 0) dX8_in_14 rfl ?_
      exact mJ_zret dX8_in_15 rfl (Or.inl rfl) (by first | exact z_t (by simp_all [q_rg]) | exact z_f (by simp_all [q_rg])) (rfl)
    · refine mJ_iconst (v := 1) dX8_in_10 rfl ?_
      refine mJ_goto 15 dX8_in_11 rfl ?_
      exact mJ_zret dX8_in_15 rfl (Or.inr rfl) (by first | exact z_t (by simp_all [q_rg]) | exact z_f (by simp_all [q_rg])) (rfl)
set_option maxHeartbeats 4000000 in
set_option maxRecDepth 100000 in
theorem C_X8_half {d was text ord why son tri : aF} {sta typ at_ sig fst snd rea lef top shf arr goo shn trs : Int32} {v : Int32} : mCt k_X8_half [.int v] (mH d was sta text typ at_ sig fst snd rea lef top shf arr goo ord why son shn tri trs) (some (.int (v_half v))) (mH d was sta text typ at_ sig fst snd rea lef top shf arr goo ord why son shn tri trs) := by
  refine mCt_intro (plainFor_of_name rfl) (Nat.le_of_ble_eq_true rfl) (m_all rfl) (ls := [_]) rfl ?_
  refine mJ_iload_n dX8_half_0 rfl ?_
  refine mJ_if_lt 10 dX8_half_1 rfl (fun c_1 => ?_) (fun c_1 => ?_)
  · refine mJ_iconst (v := 1) dX8_half_10 rfl ?_
    refine mJ_iload_n dX8_half_11 rfl ?_
    refine mJ_isub dX8_half_12 ?_
    refine mJ_iconst (v := 2) dX8_half_13 rfl ?_
    refine mJ_idiv dX8_half_14 (by decide) ?_
    refine mJ_ineg dX8_half_15 ?_
    exact mJ_iret dX8_half_16 rfl (by simp [v_half, *]) (rfl)
  · refine mJ_iload_n dX8_half_4 rfl ?_
    refine mJ_iconst (v := 2) dX8_half_5 rfl ?_
    refine mJ_idiv dX8_half_6 (by decide) ?_
    refine mJ_goto 16 dX8_half_7 rfl ?_
    exact mJ_iret dX8_half_16 rfl (by simp [v_half, *]) (rfl)
set_option maxHeartbeats 4000000 in
set_option maxRecDepth 100000 in
theorem C_X8_meets {d was text ord why son tri : aF} {sta typ at_ sig fst snd rea lef top shf arr goo shn trs : Int32} {x y w h ox oy ow oh : Int32} : mCt k_X8_meets [.int x, .int y, .int w, .int h, .int ox, .int oy, .int ow, .int oh] (mH d was sta text typ at_ sig fst snd rea lef top shf arr goo ord why son shn tri trs) (some (.int (b2i (q_mt x y w h ox oy ow oh)))) (mH d was sta text typ at_ sig fst snd rea lef top shf arr goo ord why son shn tri trs) := by
  refine mCt_intro (plainFor_of_name rfl) (Nat.le_of_ble_eq_true rfl) (m_all rfl) (ls := [_, _, _, _, _, _, _, _]) rfl ?_
  refine mJ_iload_n dX8_meets_0 rfl ?_
  refine mJ_iload dX8_meets_1 rfl ?_
  refine mJ_iload dX8_meets_3 rfl ?_
  refine mJ_iadd dX8_meets_5 ?_
  refine mJ_icmp_ge 38 dX8_meets_6 rfl (fun c_6 => ?_) (fun c_6 => ?_)
  · refine mJ_iconst (v := 0) dX8_meets_38 rfl ?_
    exact mJ_zret dX8_meets_39 rfl (Or.inl rfl) (by first | exact z_t (by simp_all [q_mt]) | exact z_f (by simp_all [q_mt])) (rfl)
  · refine mJ_iload dX8_meets_9 rfl ?_
    refine mJ_iload_n dX8_meets_11 rfl ?_
    refine mJ_iload_n dX8_meets_12 rfl ?_
    refine mJ_iadd dX8_meets_13 ?_
    refine mJ_icmp_ge 38 dX8_meets_14 rfl (fun c_14 => ?_) (fun c_14 => ?_)
    · refine mJ_iconst (v := 0) dX8_meets_38 rfl ?_
      exact mJ_zret dX8_meets_39 rfl (Or.inl rfl) (by first | exact z_t (by simp_all [q_mt]) | exact z_f (by simp_all [q_mt])) (rfl)
    · refine mJ_iload_n dX8_meets_17 rfl ?_
      refine mJ_iload dX8_meets_18 rfl ?_
      refine mJ_iload dX8_meets_20 rfl ?_
      refine mJ_iadd dX8_meets_22 ?_
      refine mJ_icmp_ge 38 dX8_meets_23 rfl (fun c_23 => ?_) (fun c_23 => ?_)
      · refine mJ_iconst (v := 0) dX8_meets_38 rfl ?_
        exact mJ_zret dX8_meets_39 rfl (Or.inl rfl) (by first | exact z_t (by simp_all [q_mt]) | exact z_f (by simp_all [q_mt])) (rfl)
      · refine mJ_iload dX8_meets_26 rfl ?_
        refine mJ_iload_n dX8_meets_28 rfl ?_
        refine mJ_iload_n dX8_meets_29 rfl ?_
        refine mJ_iadd dX8_meets_30 ?_
        refine mJ_icmp_ge 38 dX8_meets_31 rfl (fun c_31 => ?_) (fun c_31 => ?_)
        · refine mJ_iconst (v := 0) dX8_meets_38 rfl ?_
          exact mJ_zret dX8_meets_39 rfl (Or.inl rfl) (by first | exact z_t (by simp_all [q_mt]) | exact z_f (by simp_all [q_mt])) (rfl)
        · refine mJ_iconst (v := 1) dX8_meets_34 rfl ?_
          refine mJ_goto 39 dX8_meets_35 rfl ?_
          exact mJ_zret dX8_meets_39 rfl (Or.inr rfl) (by first | exact z_t (by simp_all [q_mt]) | exact z_f (by simp_all [q_mt])) (rfl)
set_option maxHeartbeats 4000000 in
set_option maxRecDepth 100000 in
theorem C_X8_ofAnchor {d was text ord why son tri : aF} {sta typ at_ sig fst snd rea lef top shf arr goo shn trs : Int32} {a w : Nat} (ha : a < 10) (hw : w < 4) : mCt k_X8_ofAnchor [.ref 0, .int (nI a), .int (nI w)] (mH d was sta text typ at_ sig fst snd rea lef top shf arr goo ord why son shn tri trs) (some (.int (dA d a w))) (mH d was sta text typ at_ sig fst snd rea lef top shf arr goo ord why son shn tri trs) := by
  refine mCt_intro (plainFor_of_name rfl) (Nat.le_of_ble_eq_true rfl) (m_all rfl) (ls := [_, _, _]) rfl ?_
  refine mJ_aload_n dX8_ofAnchor_0 rfl ?_
  refine mJ_get dX8_ofAnchor_1 f_X8_7 rfl rfl ?_
  refine mJ_bipush (v := 10) dX8_ofAnchor_4 rfl ?_
  refine mJ_bipush (v := 10) dX8_ofAnchor_6 rfl ?_
  refine mJ_iload_n dX8_ofAnchor_8 rfl ?_
  refine mJ_imul dX8_ofAnchor_9 ?_
  refine mJ_iadd dX8_ofAnchor_10 ?_
  refine mJ_iload_n dX8_ofAnchor_11 rfl ?_
  refine mJ_iadd dX8_ofAnchor_12 ?_
  refine mJ_ialdN dX8_ofAnchor_13 rfl (j := 10 + 10 * w + a) ⟨by simp only [← nI_add, ← pk_mul]; rfl, by omega, by omega⟩ ?_
  exact mJ_iret dX8_ofAnchor_14 rfl (rfl) (rfl)
set_option maxHeartbeats 4000000 in
set_option maxRecDepth 100000 in
theorem C_X8_ofHint {d was text ord why son tri : aF} {sta typ at_ sig fst snd rea lef top shf arr goo shn trs : Int32} {h w : Nat} (hh : h < 12) (hw : w < 8) : mCt k_X8_ofHint [.ref 0, .int (nI h), .int (nI w)] (mH d was sta text typ at_ sig fst snd rea lef top shf arr goo ord why son shn tri trs) (some (.int (dH d h w))) (mH d was sta text typ at_ sig fst snd rea lef top shf arr goo ord why son shn tri trs) := by
  refine mCt_intro (plainFor_of_name rfl) (Nat.le_of_ble_eq_true rfl) (m_all rfl) (ls := [_, _, _]) rfl ?_
  refine mJ_aload_n dX8_ofHint_0 rfl ?_
  refine mJ_get dX8_ofHint_1 f_X8_7 rfl rfl ?_
  refine mJ_bipush (v := 51) dX8_ofHint_4 rfl ?_
  refine mJ_bipush (v := 12) dX8_ofHint_6 rfl ?_
  refine mJ_iload_n dX8_ofHint_8 rfl ?_
  refine mJ_imul dX8_ofHint_9 ?_
  refine mJ_iadd dX8_ofHint_10 ?_
  refine mJ_iload_n dX8_ofHint_11 rfl ?_
  refine mJ_iadd dX8_ofHint_12 ?_
  refine mJ_ialdN dX8_ofHint_13 rfl (j := 51 + 12 * w + h) ⟨by simp only [← nI_add, ← pk_mul]; rfl, by omega, by omega⟩ ?_
  exact mJ_iret dX8_ofHint_14 rfl (rfl) (rfl)
set_option maxHeartbeats 4000000 in
set_option maxRecDepth 100000 in
theorem C_X8_isAnchor {d was text ord why son tri : aF} {sta typ at_ sig fst snd rea lef top shf arr goo shn trs : Int32} {v : Int32} : mCt k_X8_isAnchor [.ref 0, .int v] (mH d was sta text typ at_ sig fst snd rea lef top shf arr goo ord why son shn tri trs) (some (.int (b2i (q_rg v 0 (d 9 - 1))))) (mH d was sta text typ at_ sig fst snd rea lef top shf arr goo ord why son shn tri trs) := by
  refine mCt_intro (plainFor_of_name rfl) (Nat.le_of_ble_eq_true rfl) (m_all rfl) (ls := [_, _]) rfl ?_
  refine mJ_iload_n dX8_isAnchor_0 rfl ?_
  refine mJ_iconst (v := 0) dX8_isAnchor_1 rfl ?_
  refine mJ_aload_n dX8_isAnchor_2 rfl ?_
  refine mJ_get dX8_isAnchor_3 f_X8_7 rfl rfl ?_
  refine mJ_bipush (v := 9) dX8_isAnchor_6 rfl ?_
  refine mJ_ialdN dX8_isAnchor_8 rfl (j := 9) ⟨rfl, by decide, by decide⟩ ?_
  refine mJ_iconst (v := 1) dX8_isAnchor_9 rfl ?_
  refine mJ_isub dX8_isAnchor_10 ?_
  refine mJ_cS3i dX8_isAnchor_11 e_X8_in n_X8_32 ⟨Nat.le_of_ble_eq_true rfl, Nat.le_of_ble_eq_true rfl⟩ (Nat.le_of_ble_eq_true rfl) (C_X8_in) ?_
  exact mJ_zret dX8_isAnchor_14 rfl (b2i_01 _) (rfl) (rfl)
set_option maxHeartbeats 4000000 in
set_option maxRecDepth 100000 in
theorem C_X8_isHint {d was text ord why son tri : aF} {sta typ at_ sig fst snd rea lef top shf arr goo shn trs : Int32} {v : Int32} : mCt k_X8_isHint [.ref 0, .int v] (mH d was sta text typ at_ sig fst snd rea lef top shf arr goo ord why son shn tri trs) (some (.int (b2i (q_rg v 0 (d 50 - 1))))) (mH d was sta text typ at_ sig fst snd rea lef top shf arr goo ord why son shn tri trs) := by
  refine mCt_intro (plainFor_of_name rfl) (Nat.le_of_ble_eq_true rfl) (m_all rfl) (ls := [_, _]) rfl ?_
  refine mJ_iload_n dX8_isHint_0 rfl ?_
  refine mJ_iconst (v := 0) dX8_isHint_1 rfl ?_
  refine mJ_aload_n dX8_isHint_2 rfl ?_
  refine mJ_get dX8_isHint_3 f_X8_7 rfl rfl ?_
  refine mJ_bipush (v := 50) dX8_isHint_6 rfl ?_
  refine mJ_ialdN dX8_isHint_8 rfl (j := 50) ⟨rfl, by decide, by decide⟩ ?_
  refine mJ_iconst (v := 1) dX8_isHint_9 rfl ?_
  refine mJ_isub dX8_isHint_10 ?_
  refine mJ_cS3i dX8_isHint_11 e_X8_in n_X8_32 ⟨Nat.le_of_ble_eq_true rfl, Nat.le_of_ble_eq_true rfl⟩ (Nat.le_of_ble_eq_true rfl) (C_X8_in) ?_
  exact mJ_zret dX8_isHint_14 rfl (b2i_01 _) (rfl) (rfl)
set_option maxHeartbeats 4000000 in
set_option maxRecDepth 100000 in
theorem C_X8_isSeen {d was text ord why son tri : aF} {sta typ at_ sig fst snd rea lef top shf arr goo shn trs : Int32} {a : Nat} (ha : a < 10) : mCt k_X8_isSeen [.ref 0, .int (nI a)] (mH d was sta text typ at_ sig fst snd rea lef top shf arr goo ord why son shn tri trs) (some (.int (b2i (q_sn d a)))) (mH d was sta text typ at_ sig fst snd rea lef top shf arr goo ord why son shn tri trs) := by
  refine mCt_intro (plainFor_of_name rfl) (Nat.le_of_ble_eq_true rfl) (m_all rfl) (ls := [_, _]) rfl ?_
  refine mJ_aload_n dX8_isSeen_0 rfl ?_
  refine mJ_iload_n dX8_isSeen_1 rfl ?_
  refine mJ_iconst (v := 0) dX8_isSeen_2 rfl ?_
  refine mJ_cV2i dX8_isSeen_3 e_X8_ofAnchor n_X8_40 ⟨Nat.le_of_ble_eq_true rfl, Nat.le_of_ble_eq_true rfl⟩ rfl rfl (Nat.le_of_ble_eq_true rfl) (C_X8_ofAnchor (w := 0) ha (by decide)) ?_
  refine mJ_aload_n dX8_isSeen_6 rfl ?_
  refine mJ_iload_n dX8_isSeen_7 rfl ?_
  refine mJ_iconst (v := 1) dX8_isSeen_8 rfl ?_
  refine mJ_cV2i dX8_isSeen_9 e_X8_ofAnchor n_X8_40 ⟨Nat.le_of_ble_eq_true rfl, Nat.le_of_ble_eq_true rfl⟩ rfl rfl (Nat.le_of_ble_eq_true rfl) (C_X8_ofAnchor (w := 1) ha (by decide)) ?_
  refine mJ_aload_n dX8_isSeen_12 rfl ?_
  refine mJ_iload_n dX8_isSeen_13 rfl ?_
  refine mJ_iconst (v := 2) dX8_isSeen_14 rfl ?_
  refine mJ_cV2i dX8_isSeen_15 e_X8_ofAnchor n_X8_40 ⟨Nat.le_of_ble_eq_true rfl, Nat.le_of_ble_eq_true rfl⟩ rfl rfl (Nat.le_of_ble_eq_true rfl) (C_X8_ofAnchor (w := 2) ha (by decide)) ?_
  refine mJ_aload_n dX8_isSeen_18 rfl ?_
  refine mJ_iload_n dX8_isSeen_19 rfl ?_
  refine mJ_iconst (v := 3) dX8_isSeen_20 rfl ?_
  refine mJ_cV2i dX8_isSeen_21 e_X8_ofAnchor n_X8_40 ⟨Nat.le_of_ble_eq_true rfl, Nat.le_of_ble_eq_true rfl⟩ rfl rfl (Nat.le_of_ble_eq_true rfl) (C_X8_ofAnchor (w := 3) ha (by decide)) ?_
  refine mJ_aload_n dX8_isSeen_24 rfl ?_
  refine mJ_get dX8_isSeen_25 f_X8_7 rfl rfl ?_
  refine mJ_iconst (v := 0) dX8_isSeen_28 rfl ?_
  refine mJ_ialdN dX8_isSeen_29 rfl (j := 0) ⟨rfl, by decide, by decide⟩ ?_
  refine mJ_aload_n dX8_isSeen_30 rfl ?_
  refine mJ_get dX8_isSeen_31 f_X8_7 rfl rfl ?_
  refine mJ_iconst (v := 1) dX8_isSeen_34 rfl ?_
  refine mJ_ialdN dX8_isSeen_35 rfl (j := 1) ⟨rfl, by decide, by decide⟩ ?_
  refine mJ_aload_n dX8_isSeen_36 rfl ?_
  refine mJ_get dX8_isSeen_37 f_X8_7 rfl rfl ?_
  refine mJ_iconst (v := 2) dX8_isSeen_40 rfl ?_
  refine mJ_ialdN dX8_isSeen_41 rfl (j := 2) ⟨rfl, by decide, by decide⟩ ?_
  refine mJ_aload_n dX8_isSeen_42 rfl ?_
  refine mJ_get dX8_isSeen_43 f_X8_7 rfl rfl ?_
  refine mJ_iconst (v := 3) dX8_isSeen_46 rfl ?_
  refine mJ_ialdN dX8_isSeen_47 rfl (j := 3) ⟨rfl, by decide, by decide⟩ ?_
  refine mJ_cS8i dX8_isSeen_48 e_X8_meets n_X8_44 ⟨Nat.le_of_ble_eq_true rfl, Nat.le_of_ble_eq_true rfl⟩ (Nat.le_of_ble_eq_true rfl) (C_X8_meets) ?_
  exact mJ_zret dX8_isSeen_51 rfl (b2i_01 _) (rfl) (rfl)
set_option maxHeartbeats 4000000 in
set_option maxRecDepth 100000 in
theorem C_X8_isGood {d was text ord why son tri : aF} {sta typ at_ sig fst snd rea lef top shf arr goo shn trs : Int32} {p l : Int32} : mCt k_X8_isGood [.ref 0, .int p, .int l] (mH d was sta text typ at_ sig fst snd rea lef top shf arr goo ord why son shn tri trs) (some (.int (b2i (q_gd p l (d 5))))) (mH d was sta text typ at_ sig fst snd rea lef top shf arr goo ord why son shn tri trs) := by
  refine mCt_intro (plainFor_of_name rfl) (Nat.le_of_ble_eq_true rfl) (m_all rfl) (ls := [_, _, _]) rfl ?_
  refine mJ_iload_n dX8_isGood_0 rfl ?_
  refine mJ_aload_n dX8_isGood_1 rfl ?_
  refine mJ_get dX8_isGood_2 f_X8_7 rfl rfl ?_
  refine mJ_iconst (v := 5) dX8_isGood_5 rfl ?_
  refine mJ_ialdN dX8_isGood_6 rfl (j := 5) ⟨rfl, by decide, by decide⟩ ?_
  refine mJ_iload_n dX8_isGood_7 rfl ?_
  refine mJ_iconst (v := 1) dX8_isGood_8 rfl ?_
  refine mJ_isub dX8_isGood_9 ?_
  refine mJ_aload_n dX8_isGood_10 rfl ?_
  refine mJ_get dX8_isGood_11 f_X8_7 rfl rfl ?_
  refine mJ_iconst (v := 5) dX8_isGood_14 rfl ?_
  refine mJ_ialdN dX8_isGood_15 rfl (j := 5) ⟨rfl, by decide, by decide⟩ ?_
  refine mJ_isub dX8_isGood_16 ?_
  refine mJ_cS3i dX8_isGood_17 e_X8_in n_X8_32 ⟨Nat.le_of_ble_eq_true rfl, Nat.le_of_ble_eq_true rfl⟩ (Nat.le_of_ble_eq_true rfl) (C_X8_in) ?_
  exact mJ_zret dX8_isGood_20 rfl (b2i_01 _) (rfl) (rfl)
set_option maxHeartbeats 4000000 in
set_option maxRecDepth 100000 in
theorem C_X8_shift {d was text ord why son tri : aF} {sta typ at_ sig fst snd rea lef top shf arr goo shn trs : Int32} {b l p fr sz : Int32} : mCt k_X8_shift [.ref 0, .int b, .int l, .int p, .int fr, .int sz] (mH d was sta text typ at_ sig fst snd rea lef top shf arr goo ord why son shn tri trs) (some (.int (v_ms (d 5) b l p fr sz))) (mH d was sta text typ at_ sig fst snd rea lef top shf arr goo ord why son shn tri trs) := by
  refine mCt_intro (plainFor_of_name rfl) (Nat.le_of_ble_eq_true rfl) (m_all rfl) (ls := [_, _, _, _, _, _, _, _, _]) rfl ?_
  refine mJ_iload_n dX8_shift_0 rfl ?_
  refine mJ_iload dX8_shift_1 rfl ?_
  refine mJ_icmp_le 8 dX8_shift_3 rfl (fun c_3 => ?_) (fun c_3 => ?_)
  · refine mJ_iload_n dX8_shift_8 rfl ?_
    refine mJ_iload dX8_shift_9 rfl ?_
    refine mJ_icmp_ge 21 dX8_shift_11 rfl (fun c_11 => ?_) (fun c_11 => ?_)
    · refine mJ_iload_n dX8_shift_21 rfl ?_
      refine mJ_iload_n dX8_shift_22 rfl ?_
      refine mJ_iadd dX8_shift_23 ?_
      refine mJ_iload dX8_shift_24 rfl ?_
      refine mJ_iload dX8_shift_26 rfl ?_
      refine mJ_iadd dX8_shift_28 ?_
      refine mJ_icmp_le 44 dX8_shift_29 rfl (fun c_29 => ?_) (fun c_29 => ?_)
      · refine mJ_iconst (v := 0) dX8_shift_44 rfl ?_
        refine mJ_istore dX8_shift_45 (Nat.le_of_ble_eq_true rfl) (ls2 := [_, _, _, _, _, _, _, _, _]) rfl ?_
        refine mJ_aload_n dX8_shift_47 rfl ?_
        refine mJ_iload_n dX8_shift_48 rfl ?_
        refine mJ_iload_n dX8_shift_49 rfl ?_
        refine mJ_cV2i dX8_shift_50 e_X8_isGood n_X8_48 ⟨Nat.le_of_ble_eq_true rfl, Nat.le_of_ble_eq_true rfl⟩ rfl rfl (Nat.le_of_ble_eq_true rfl) (C_X8_isGood) ?_
        refine mJ_b2i (fun b_50 => ?_) (fun b_50 => ?_)
        · refine mJ_if_eq 108 dX8_shift_53 rfl (fun c => absurd c (by decide)) (fun _ => ?_)
          refine mJ_iload_n dX8_shift_56 rfl ?_
          refine mJ_aload_n dX8_shift_57 rfl ?_
          refine mJ_get dX8_shift_58 f_X8_7 rfl rfl ?_
          refine mJ_iconst (v := 5) dX8_shift_61 rfl ?_
          refine mJ_ialdN dX8_shift_62 rfl (j := 5) ⟨rfl, by decide, by decide⟩ ?_
          refine mJ_isub dX8_shift_63 ?_
          refine mJ_istore dX8_shift_64 (Nat.le_of_ble_eq_true rfl) (ls2 := [_, _, _, _, _, _, _, _, _]) rfl ?_
          refine mJ_iload_n dX8_shift_66 rfl ?_
          refine mJ_iload_n dX8_shift_67 rfl ?_
          refine mJ_iconst (v := 1) dX8_shift_68 rfl ?_
          refine mJ_isub dX8_shift_69 ?_
          refine mJ_aload_n dX8_shift_70 rfl ?_
          refine mJ_get dX8_shift_71 f_X8_7 rfl rfl ?_
          refine mJ_iconst (v := 5) dX8_shift_74 rfl ?_
          refine mJ_ialdN dX8_shift_75 rfl (j := 5) ⟨rfl, by decide, by decide⟩ ?_
          refine mJ_isub dX8_shift_76 ?_
          refine mJ_isub dX8_shift_77 ?_
          refine mJ_istore dX8_shift_78 (Nat.le_of_ble_eq_true rfl) (ls2 := [_, _, _, _, _, _, _, _, _]) rfl ?_
          refine mJ_iload dX8_shift_80 rfl ?_
          refine mJ_iload dX8_shift_82 rfl ?_
          refine mJ_icmp_le 92 dX8_shift_84 rfl (fun c_84 => ?_) (fun c_84 => ?_)
          · refine mJ_iload dX8_shift_92 rfl ?_
            refine mJ_iload dX8_shift_94 rfl ?_
            refine mJ_icmp_ge 104 dX8_shift_96 rfl (fun c_96 => ?_) (fun c_96 => ?_)
            · refine mJ_iload dX8_shift_104 rfl ?_
              refine mJ_istore dX8_shift_106 (Nat.le_of_ble_eq_true rfl) (ls2 := [_, _, _, _, _, _, _, _, _]) rfl ?_
              refine mJ_iload dX8_shift_108 rfl ?_
              exact mJ_iret dX8_shift_110 rfl (by simp [v_ms, v_by, iif_t, iif_f, *]) (rfl)
            · refine mJ_iload dX8_shift_99 rfl ?_
              refine mJ_goto 106 dX8_shift_101 rfl ?_
              refine mJ_istore dX8_shift_106 (Nat.le_of_ble_eq_true rfl) (ls2 := [_, _, _, _, _, _, _, _, _]) rfl ?_
              refine mJ_iload dX8_shift_108 rfl ?_
              exact mJ_iret dX8_shift_110 rfl (by simp [v_ms, v_by, iif_t, iif_f, *]) (rfl)
          · refine mJ_iload dX8_shift_87 rfl ?_
            refine mJ_goto 106 dX8_shift_89 rfl ?_
            refine mJ_istore dX8_shift_106 (Nat.le_of_ble_eq_true rfl) (ls2 := [_, _, _, _, _, _, _, _, _]) rfl ?_
            refine mJ_iload dX8_shift_108 rfl ?_
            exact mJ_iret dX8_shift_110 rfl (by simp [v_ms, v_by, iif_t, iif_f, *]) (rfl)
        · refine mJ_if_eq 108 dX8_shift_53 rfl (fun _ => ?_) (fun c => absurd c (by decide))
          refine mJ_iload dX8_shift_108 rfl ?_
          exact mJ_iret dX8_shift_110 rfl (by simp [v_ms, v_by, iif_t, iif_f, *]) (rfl)
      · refine mJ_iload dX8_shift_32 rfl ?_
        refine mJ_iload dX8_shift_34 rfl ?_
        refine mJ_iadd dX8_shift_36 ?_
        refine mJ_iload_n dX8_shift_37 rfl ?_
        refine mJ_isub dX8_shift_38 ?_
        refine mJ_iload_n dX8_shift_39 rfl ?_
        refine mJ_isub dX8_shift_40 ?_
        refine mJ_goto 45 dX8_shift_41 rfl ?_
        refine mJ_istore dX8_shift_45 (Nat.le_of_ble_eq_true rfl) (ls2 := [_, _, _, _, _, _, _, _, _]) rfl ?_
        refine mJ_aload_n dX8_shift_47 rfl ?_
        refine mJ_iload_n dX8_shift_48 rfl ?_
        refine mJ_iload_n dX8_shift_49 rfl ?_
        refine mJ_cV2i dX8_shift_50 e_X8_isGood n_X8_48 ⟨Nat.le_of_ble_eq_true rfl, Nat.le_of_ble_eq_true rfl⟩ rfl rfl (Nat.le_of_ble_eq_true rfl) (C_X8_isGood) ?_
        refine mJ_b2i (fun b_50 => ?_) (fun b_50 => ?_)
        · refine mJ_if_eq 108 dX8_shift_53 rfl (fun c => absurd c (by decide)) (fun _ => ?_)
          refine mJ_iload_n dX8_shift_56 rfl ?_
          refine mJ_aload_n dX8_shift_57 rfl ?_
          refine mJ_get dX8_shift_58 f_X8_7 rfl rfl ?_
          refine mJ_iconst (v := 5) dX8_shift_61 rfl ?_
          refine mJ_ialdN dX8_shift_62 rfl (j := 5) ⟨rfl, by decide, by decide⟩ ?_
          refine mJ_isub dX8_shift_63 ?_
          refine mJ_istore dX8_shift_64 (Nat.le_of_ble_eq_true rfl) (ls2 := [_, _, _, _, _, _, _, _, _]) rfl ?_
          refine mJ_iload_n dX8_shift_66 rfl ?_
          refine mJ_iload_n dX8_shift_67 rfl ?_
          refine mJ_iconst (v := 1) dX8_shift_68 rfl ?_
          refine mJ_isub dX8_shift_69 ?_
          refine mJ_aload_n dX8_shift_70 rfl ?_
          refine mJ_get dX8_shift_71 f_X8_7 rfl rfl ?_
          refine mJ_iconst (v := 5) dX8_shift_74 rfl ?_
          refine mJ_ialdN dX8_shift_75 rfl (j := 5) ⟨rfl, by decide, by decide⟩ ?_
          refine mJ_isub dX8_shift_76 ?_
          refine mJ_isub dX8_shift_77 ?_
          refine mJ_istore dX8_shift_78 (Nat.le_of_ble_eq_true rfl) (ls2 := [_, _, _, _, _, _, _, _, _]) rfl ?_
          refine mJ_iload dX8_shift_80 rfl ?_
          refine mJ_iload dX8_shift_82 rfl ?_
          refine mJ_icmp_le 92 dX8_shift_84 rfl (fun c_84 => ?_) (fun c_84 => ?_)
          · refine mJ_iload dX8_shift_92 rfl ?_
            refine mJ_iload dX8_shift_94 rfl ?_
            refine mJ_icmp_ge 104 dX8_shift_96 rfl (fun c_96 => ?_) (fun c_96 => ?_)
            · refine mJ_iload dX8_shift_104 rfl ?_
              refine mJ_istore dX8_shift_106 (Nat.le_of_ble_eq_true rfl) (ls2 := [_, _, _, _, _, _, _, _, _]) rfl ?_
              refine mJ_iload dX8_shift_108 rfl ?_
              exact mJ_iret dX8_shift_110 rfl (by simp [v_ms, v_by, iif_t, iif_f, *]) (rfl)
            · refine mJ_iload dX8_shift_99 rfl ?_
              refine mJ_goto 106 dX8_shift_101 rfl ?_
              refine mJ_istore dX8_shift_106 (Nat.le_of_ble_eq_true rfl) (ls2 := [_, _, _, _, _, _, _, _, _]) rfl ?_
              refine mJ_iload dX8_shift_108 rfl ?_
              exact mJ_iret dX8_shift_110 rfl (by simp [v_ms, v_by, iif_t, iif_f, *]) (rfl)
          · refine mJ_iload dX8_shift_87 rfl ?_
            refine mJ_goto 106 dX8_shift_89 rfl ?_
            refine mJ_istore dX8_shift_106 (Nat.le_of_ble_eq_true rfl) (ls2 := [_, _, _, _, _, _, _, _, _]) rfl ?_
            refine mJ_iload dX8_shift_108 rfl ?_
            exact mJ_iret dX8_shift_110 rfl (by simp [v_ms, v_by, iif_t, iif_f, *]) (rfl)
        · refine mJ_if_eq 108 dX8_shift_53 rfl (fun _ => ?_) (fun c => absurd c (by decide))
          refine mJ_iload dX8_shift_108 rfl ?_
          exact mJ_iret dX8_shift_110 rfl (by simp [v_ms, v_by, iif_t, iif_f, *]) (rfl)
    · refine mJ_iload dX8_shift_14 rfl ?_
      refine mJ_iload_n dX8_shift_16 rfl ?_
      refine mJ_isub dX8_shift_17 ?_
      refine mJ_goto 45 dX8_shift_18 rfl ?_
      refine mJ_istore dX8_shift_45 (Nat.le_of_ble_eq_true rfl) (ls2 := [_, _, _, _, _, _, _, _, _]) rfl ?_
      refine mJ_aload_n dX8_shift_47 rfl ?_
      refine mJ_iload_n dX8_shift_48 rfl ?_
      refine mJ_iload_n dX8_shift_49 rfl ?_
      refine mJ_cV2i dX8_shift_50 e_X8_isGood n_X8_48 ⟨Nat.le_of_ble_eq_true rfl, Nat.le_of_ble_eq_true rfl⟩ rfl rfl (Nat.le_of_ble_eq_true rfl) (C_X8_isGood) ?_
      refine mJ_b2i (fun b_50 => ?_) (fun b_50 => ?_)
      · refine mJ_if_eq 108 dX8_shift_53 rfl (fun c => absurd c (by decide)) (fun _ => ?_)
        refine mJ_iload_n dX8_shift_56 rfl ?_
        refine mJ_aload_n dX8_shift_57 rfl ?_
        refine mJ_get dX8_shift_58 f_X8_7 rfl rfl ?_
        refine mJ_iconst (v := 5) dX8_shift_61 rfl ?_
        refine mJ_ialdN dX8_shift_62 rfl (j := 5) ⟨rfl, by decide, by decide⟩ ?_
        refine mJ_isub dX8_shift_63 ?_
        refine mJ_istore dX8_shift_64 (Nat.le_of_ble_eq_true rfl) (ls2 := [_, _, _, _, _, _, _, _, _]) rfl ?_
        refine mJ_iload_n dX8_shift_66 rfl ?_
        refine mJ_iload_n dX8_shift_67 rfl ?_
        refine mJ_iconst (v := 1) dX8_shift_68 rfl ?_
        refine mJ_isub dX8_shift_69 ?_
        refine mJ_aload_n dX8_shift_70 rfl ?_
        refine mJ_get dX8_shift_71 f_X8_7 rfl rfl ?_
        refine mJ_iconst (v := 5) dX8_shift_74 rfl ?_
        refine mJ_ialdN dX8_shift_75 rfl (j := 5) ⟨rfl, by decide, by decide⟩ ?_
        refine mJ_isub dX8_shift_76 ?_
        refine mJ_isub dX8_shift_77 ?_
        refine mJ_istore dX8_shift_78 (Nat.le_of_ble_eq_true rfl) (ls2 := [_, _, _, _, _, _, _, _, _]) rfl ?_
        refine mJ_iload dX8_shift_80 rfl ?_
        refine mJ_iload dX8_shift_82 rfl ?_
        refine mJ_icmp_le 92 dX8_shift_84 rfl (fun c_84 => ?_) (fun c_84 => ?_)
        · refine mJ_iload dX8_shift_92 rfl ?_
          refine mJ_iload dX8_shift_94 rfl ?_
          refine mJ_icmp_ge 104 dX8_shift_96 rfl (fun c_96 => ?_) (fun c_96 => ?_)
          · refine mJ_iload dX8_shift_104 rfl ?_
            refine mJ_istore dX8_shift_106 (Nat.le_of_ble_eq_true rfl) (ls2 := [_, _, _, _, _, _, _, _, _]) rfl ?_
            refine mJ_iload dX8_shift_108 rfl ?_
            exact mJ_iret dX8_shift_110 rfl (by simp [v_ms, v_by, iif_t, iif_f, *]) (rfl)
          · refine mJ_iload dX8_shift_99 rfl ?_
            refine mJ_goto 106 dX8_shift_101 rfl ?_
            refine mJ_istore dX8_shift_106 (Nat.le_of_ble_eq_true rfl) (ls2 := [_, _, _, _, _, _, _, _, _]) rfl ?_
            refine mJ_iload dX8_shift_108 rfl ?_
            exact mJ_iret dX8_shift_110 rfl (by simp [v_ms, v_by, iif_t, iif_f, *]) (rfl)
        · refine mJ_iload dX8_shift_87 rfl ?_
          refine mJ_goto 106 dX8_shift_89 rfl ?_
          refine mJ_istore dX8_shift_106 (Nat.le_of_ble_eq_true rfl) (ls2 := [_, _, _, _, _, _, _, _, _]) rfl ?_
          refine mJ_iload dX8_shift_108 rfl ?_
          exact mJ_iret dX8_shift_110 rfl (by simp [v_ms, v_by, iif_t, iif_f, *]) (rfl)
      · refine mJ_if_eq 108 dX8_shift_53 rfl (fun _ => ?_) (fun c => absurd c (by decide))
        refine mJ_iload dX8_shift_108 rfl ?_
        exact mJ_iret dX8_shift_110 rfl (by simp [v_ms, v_by, iif_t, iif_f, *]) (rfl)
  · refine mJ_iconst (v := 0) dX8_shift_6 rfl ?_
    exact mJ_iret dX8_shift_7 rfl (by simp [v_ms, v_by, iif_t, iif_f, *]) (rfl)
set_option maxHeartbeats 4000000 in
set_option maxRecDepth 100000 in
theorem C_X8_places_0 {d was text ord why son tri : aF} {sta typ at_ sig fst snd rea lef top shf arr goo shn trs : Int32} {h a : Nat} (hh : h < 12) (ha0 : dH d h 0 = nI a) (ha : a < 10) : mCt k_X8_places [.ref 0, .int (nI h), .int 0] (mH d was sta text typ at_ sig fst snd rea lef top shf arr goo ord why son shn tri trs) none (mH d was sta text typ at_ sig fst snd rea (p_x d h 0) (p_y d h 0) (p_sh d h 0) (p_ar d h 0) (b2i (p_gd d h 0)) ord why son shn tri trs) := by
  refine mCt_intro (plainFor_of_name rfl) (Nat.le_of_ble_eq_true rfl) (m_all rfl) (ls := [_, _, _, _, _, _, _, _, _, _, _, _, _, _, _]) rfl ?_
  refine mJ_aload_n dX8_places_0 rfl ?_
  refine mJ_iload_n dX8_places_1 rfl ?_
  refine mJ_iconst (v := 0) dX8_places_2 rfl ?_
  refine mJ_cV2i dX8_places_3 e_X8_ofHint n_X8_52 ⟨Nat.le_of_ble_eq_true rfl, Nat.le_of_ble_eq_true rfl⟩ rfl rfl (Nat.le_of_ble_eq_true rfl) (C_X8_ofHint (w := 0) hh (by decide)) ?_
  refine mJ_top ha0 ?_
  refine mJ_istore_n dX8_places_6 (Nat.le_of_ble_eq_true rfl) (ls2 := [_, _, _, _, _, _, _, _, _, _, _, _, _, _, _]) rfl ?_
  refine mJ_iload_n dX8_places_7 rfl ?_
  refine mJ_iconst (v := 2) dX8_places_8 rfl ?_
  refine mJ_irem dX8_places_9 (by decide) ?_
  refine mJ_top (show (0 : Int32) - 0 / 2 * 2 = 0 by decide) ?_
  refine mJ_if_ne 17 dX8_places_10 rfl (fun c => absurd c (by decide)) (fun _ => ?_)
  refine mJ_iconst (v := 1) dX8_places_13 rfl ?_
  refine mJ_goto 18 dX8_places_14 rfl ?_
  refine mJ_istore dX8_places_18 (Nat.le_of_ble_eq_true rfl) (ls2 := [_, _, _, _, _, _, _, _, _, _, _, _, _, _, _]) rfl ?_
  refine mJ_aload_n dX8_places_20 rfl ?_
  refine mJ_iload_n dX8_places_21 rfl ?_
  refine mJ_iconst (v := 0) dX8_places_22 rfl ?_
  refine mJ_cV2i dX8_places_23 e_X8_ofAnchor n_X8_40 ⟨Nat.le_of_ble_eq_true rfl, Nat.le_of_ble_eq_true rfl⟩ rfl rfl (Nat.le_of_ble_eq_true rfl) (C_X8_ofAnchor (w := 0) ha (by decide)) ?_
  refine mJ_istore dX8_places_26 (Nat.le_of_ble_eq_true rfl) (ls2 := [_, _, _, _, _, _, _, _, _, _, _, _, _, _, _]) rfl ?_
  refine mJ_aload_n dX8_places_28 rfl ?_
  refine mJ_iload_n dX8_places_29 rfl ?_
  refine mJ_iconst (v := 1) dX8_places_30 rfl ?_
  refine mJ_cV2i dX8_places_31 e_X8_ofAnchor n_X8_40 ⟨Nat.le_of_ble_eq_true rfl, Nat.le_of_ble_eq_true rfl⟩ rfl rfl (Nat.le_of_ble_eq_true rfl) (C_X8_ofAnchor (w := 1) ha (by decide)) ?_
  refine mJ_istore dX8_places_34 (Nat.le_of_ble_eq_true rfl) (ls2 := [_, _, _, _, _, _, _, _, _, _, _, _, _, _, _]) rfl ?_
  refine mJ_aload_n dX8_places_36 rfl ?_
  refine mJ_iload_n dX8_places_37 rfl ?_
  refine mJ_iconst (v := 1) dX8_places_38 rfl ?_
  refine mJ_cV2i dX8_places_39 e_X8_ofHint n_X8_52 ⟨Nat.le_of_ble_eq_true rfl, Nat.le_of_ble_eq_true rfl⟩ rfl rfl (Nat.le_of_ble_eq_true rfl) (C_X8_ofHint (w := 1) hh (by decide)) ?_
  refine mJ_istore dX8_places_42 (Nat.le_of_ble_eq_true rfl) (ls2 := [_, _, _, _, _, _, _, _, _, _, _, _, _, _, _]) rfl ?_
  refine mJ_aload_n dX8_places_44 rfl ?_
  refine mJ_iload_n dX8_places_45 rfl ?_
  refine mJ_iconst (v := 2) dX8_places_46 rfl ?_
  refine mJ_cV2i dX8_places_47 e_X8_ofHint n_X8_52 ⟨Nat.le_of_ble_eq_true rfl, Nat.le_of_ble_eq_true rfl⟩ rfl rfl (Nat.le_of_ble_eq_true rfl) (C_X8_ofHint (w := 2) hh (by decide)) ?_
  refine mJ_istore dX8_places_50 (Nat.le_of_ble_eq_true rfl) (ls2 := [_, _, _, _, _, _, _, _, _, _, _, _, _, _, _]) rfl ?_
  refine mJ_iload dX8_places_52 rfl ?_
  refine mJ_if_eq 62 dX8_places_54 rfl (fun c => absurd c (by decide)) (fun _ => ?_)
  refine mJ_iload dX8_places_57 rfl ?_
  refine mJ_goto 64 dX8_places_59 rfl ?_
  refine mJ_istore dX8_places_64 (Nat.le_of_ble_eq_true rfl) (ls2 := [_, _, _, _, _, _, _, _, _, _, _, _, _, _, _]) rfl ?_
  refine mJ_iload dX8_places_66 rfl ?_
  refine mJ_if_eq 80 dX8_places_68 rfl (fun c => absurd c (by decide)) (fun _ => ?_)
  refine mJ_aload_n dX8_places_71 rfl ?_
  refine mJ_iload_n dX8_places_72 rfl ?_
  refine mJ_iconst (v := 2) dX8_places_73 rfl ?_
  refine mJ_cV2i dX8_places_74 e_X8_ofAnchor n_X8_40 ⟨Nat.le_of_ble_eq_true rfl, Nat.le_of_ble_eq_true rfl⟩ rfl rfl (Nat.le_of_ble_eq_true rfl) (C_X8_ofAnchor (w := 2) ha (by decide)) ?_
  refine mJ_goto 86 dX8_places_77 rfl ?_
  refine mJ_istore dX8_places_86 (Nat.le_of_ble_eq_true rfl) (ls2 := [_, _, _, _, _, _, _, _, _, _, _, _, _, _, _]) rfl ?_
  refine mJ_iload dX8_places_88 rfl ?_
  refine mJ_if_eq 98 dX8_places_90 rfl (fun c => absurd c (by decide)) (fun _ => ?_)
  refine mJ_iload dX8_places_93 rfl ?_
  refine mJ_goto 100 dX8_places_95 rfl ?_
  refine mJ_istore dX8_places_100 (Nat.le_of_ble_eq_true rfl) (ls2 := [_, _, _, _, _, _, _, _, _, _, _, _, _, _, _]) rfl ?_
  refine mJ_aload_n dX8_places_102 rfl ?_
  refine mJ_iload_n dX8_places_103 rfl ?_
  refine mJ_iconst (v := 4) dX8_places_104 rfl ?_
  refine mJ_cV2i dX8_places_105 e_X8_ofHint n_X8_52 ⟨Nat.le_of_ble_eq_true rfl, Nat.le_of_ble_eq_true rfl⟩ rfl rfl (Nat.le_of_ble_eq_true rfl) (C_X8_ofHint (w := 4) hh (by decide)) ?_
  refine mJ_istore dX8_places_108 (Nat.le_of_ble_eq_true rfl) (ls2 := [_, _, _, _, _, _, _, _, _, _, _, _, _, _, _]) rfl ?_
  refine mJ_iload dX8_places_110 rfl ?_
  refine mJ_iload dX8_places_112 rfl ?_
  refine mJ_iconst (v := 2) dX8_places_114 rfl ?_
  refine mJ_idiv dX8_places_115 (by decide) ?_
  refine mJ_iadd dX8_places_116 ?_
  refine mJ_istore dX8_places_117 (Nat.le_of_ble_eq_true rfl) (ls2 := [_, _, _, _, _, _, _, _, _, _, _, _, _, _, _]) rfl ?_
  refine mJ_iload dX8_places_119 rfl ?_
  refine mJ_if_ne 129 dX8_places_121 rfl (fun c_121 => ?_) (fun c_121 => ?_)
  · refine mJ_iload dX8_places_129 rfl ?_
    refine mJ_iconst (v := 1) dX8_places_131 rfl ?_
    refine mJ_icmp_ne 149 dX8_places_132 rfl (fun c_132 => ?_) (fun c_132 => ?_)
    · refine mJ_iload dX8_places_149 rfl ?_
      refine mJ_iload dX8_places_151 rfl ?_
      refine mJ_iadd dX8_places_153 ?_
      refine mJ_iload dX8_places_154 rfl ?_
      refine mJ_isub dX8_places_156 ?_
      refine mJ_istore dX8_places_157 (Nat.le_of_ble_eq_true rfl) (ls2 := [_, _, _, _, _, _, _, _, _, _, _, _, _, _, _]) rfl ?_
      refine mJ_aload_n dX8_places_159 rfl ?_
      refine mJ_iload dX8_places_160 rfl ?_
      refine mJ_iload dX8_places_162 rfl ?_
      refine mJ_isub dX8_places_164 ?_
      refine mJ_put dX8_places_165 p_X8_59 rfl (Nat.le_of_ble_eq_true rfl) rfl rfl (h2 := mH _ _ _ _ _ _ _ _ _ _ _ _ _ _ _ _ _ _ _ _ _) rfl ?_
      refine mJ_aload_n dX8_places_168 rfl ?_
      refine mJ_aload_n dX8_places_169 rfl ?_
      refine mJ_iload_n dX8_places_170 rfl ?_
      refine mJ_bipush (v := 6) dX8_places_171 rfl ?_
      refine mJ_cV2i dX8_places_173 e_X8_ofHint n_X8_52 ⟨Nat.le_of_ble_eq_true rfl, Nat.le_of_ble_eq_true rfl⟩ rfl rfl (Nat.le_of_ble_eq_true rfl) (C_X8_ofHint (w := 6) hh (by decide)) ?_
      refine mJ_iconst (v := 1) dX8_places_176 rfl ?_
      refine mJ_icmp_ne 235 dX8_places_177 rfl (fun c_177 => ?_) (fun c_177 => ?_)
      · refine mJ_iconst (v := 0) dX8_places_235 rfl ?_
        refine mJ_put dX8_places_236 p_X8_66 rfl (Nat.le_of_ble_eq_true rfl) rfl rfl (h2 := mH _ _ _ _ _ _ _ _ _ _ _ _ _ _ _ _ _ _ _ _ _) rfl ?_
        refine mJ_aload_n dX8_places_239 rfl ?_
        refine mJ_dup dX8_places_240 rfl ?_
        refine mJ_get dX8_places_241 f_X8_59 rfl rfl ?_
        refine mJ_aload_n dX8_places_244 rfl ?_
        refine mJ_get dX8_places_245 f_X8_66 rfl rfl ?_
        refine mJ_isub dX8_places_248 ?_
        refine mJ_put dX8_places_249 p_X8_59 rfl (Nat.le_of_ble_eq_true rfl) rfl rfl (h2 := mH _ _ _ _ _ _ _ _ _ _ _ _ _ _ _ _ _ _ _ _ _) rfl ?_
        refine mJ_aload_n dX8_places_252 rfl ?_
        refine mJ_aload_n dX8_places_253 rfl ?_
        refine mJ_aload_n dX8_places_254 rfl ?_
        refine mJ_get dX8_places_255 f_X8_59 rfl rfl ?_
        refine mJ_iload dX8_places_258 rfl ?_
        refine mJ_cV2i dX8_places_260 e_X8_isGood n_X8_48 ⟨Nat.le_of_ble_eq_true rfl, Nat.le_of_ble_eq_true rfl⟩ rfl rfl (Nat.le_of_ble_eq_true rfl) (C_X8_isGood) ?_
        refine mJ_put dX8_places_263 p_X8_69 rfl (Nat.le_of_ble_eq_true rfl) (m_nz (b2i_01 _)).1 (m_nz (b2i_01 _)).2 (h2 := mH _ _ _ _ _ _ _ _ _ _ _ _ _ _ _ _ _ _ _ _ _) rfl ?_
        refine mJ_iload dX8_places_266 rfl ?_
        refine mJ_aload_n dX8_places_268 rfl ?_
        refine mJ_get dX8_places_269 f_X8_66 rfl rfl ?_
        refine mJ_iadd dX8_places_272 ?_
        refine mJ_istore dX8_places_273 (Nat.le_of_ble_eq_true rfl) (ls2 := [_, _, _, _, _, _, _, _, _, _, _, _, _, _, _]) rfl ?_
        refine mJ_aload_n dX8_places_275 rfl ?_
        refine mJ_iload dX8_places_276 rfl ?_
        refine mJ_if_eq 286 dX8_places_278 rfl (fun c => absurd c (by decide)) (fun _ => ?_)
        refine mJ_iload dX8_places_281 rfl ?_
        refine mJ_goto 322 dX8_places_283 rfl ?_
        refine mJ_put dX8_places_322 p_X8_73 rfl (Nat.le_of_ble_eq_true rfl) rfl rfl (h2 := mH _ _ _ _ _ _ _ _ _ _ _ _ _ _ _ _ _ _ _ _ _) rfl ?_
        refine mJ_aload_n dX8_places_325 rfl ?_
        refine mJ_iload dX8_places_326 rfl ?_
        refine mJ_if_ne 336 dX8_places_328 rfl (fun _ => ?_) (fun c => absurd c (by decide))
        refine mJ_iload_n dX8_places_336 rfl ?_
        refine mJ_iconst (v := 2) dX8_places_337 rfl ?_
        refine mJ_icmp_ne 360 dX8_places_338 rfl (fun _ => ?_) (fun c => absurd c (by decide))
        refine mJ_iload dX8_places_360 rfl ?_
        refine mJ_aload_n dX8_places_362 rfl ?_
        refine mJ_get dX8_places_363 f_X8_7 rfl rfl ?_
        refine mJ_iconst (v := 4) dX8_places_366 rfl ?_
        refine mJ_ialdN dX8_places_367 rfl (j := 4) ⟨rfl, by decide, by decide⟩ ?_
        refine mJ_isub dX8_places_368 ?_
        refine mJ_iload dX8_places_369 rfl ?_
        refine mJ_isub dX8_places_371 ?_
        refine mJ_put dX8_places_372 p_X8_76 rfl (Nat.le_of_ble_eq_true rfl) rfl rfl (h2 := mH _ _ _ _ _ _ _ _ _ _ _ _ _ _ _ _ _ _ _ _ _) rfl ?_
        exact mJ_vret dX8_places_375 rfl (rfl) (by have hp := p_an_of ha0 ha; simp_all [p_x, p_y, p_al, p_gd, p_ar, p_sh, p_a0, p_b0, p_ln, p_sz, p_bg, iif_lv0, iif_lv1, iif_lv2, iif_lv3, iif_bf0, iif_bf1, iif_bf2, iif_bf3])
      · refine mJ_aload_n dX8_places_180 rfl ?_
        refine mJ_iload dX8_places_181 rfl ?_
        refine mJ_iload dX8_places_183 rfl ?_
        refine mJ_aload_n dX8_places_185 rfl ?_
        refine mJ_get dX8_places_186 f_X8_59 rfl rfl ?_
        refine mJ_iload dX8_places_189 rfl ?_
        refine mJ_if_eq 203 dX8_places_191 rfl (fun c => absurd c (by decide)) (fun _ => ?_)
        refine mJ_aload_n dX8_places_194 rfl ?_
        refine mJ_get dX8_places_195 f_X8_7 rfl rfl ?_
        refine mJ_iconst (v := 0) dX8_places_198 rfl ?_
        refine mJ_ialdN dX8_places_199 rfl (j := 0) ⟨rfl, by decide, by decide⟩ ?_
        refine mJ_goto 209 dX8_places_200 rfl ?_
        refine mJ_iload dX8_places_209 rfl ?_
        refine mJ_if_eq 223 dX8_places_211 rfl (fun c => absurd c (by decide)) (fun _ => ?_)
        refine mJ_aload_n dX8_places_214 rfl ?_
        refine mJ_get dX8_places_215 f_X8_7 rfl rfl ?_
        refine mJ_iconst (v := 2) dX8_places_218 rfl ?_
        refine mJ_ialdN dX8_places_219 rfl (j := 2) ⟨rfl, by decide, by decide⟩ ?_
        refine mJ_goto 229 dX8_places_220 rfl ?_
        refine mJ_cV5i dX8_places_229 e_X8_shift n_X8_62 ⟨Nat.le_of_ble_eq_true rfl, Nat.le_of_ble_eq_true rfl⟩ rfl rfl (Nat.le_of_ble_eq_true rfl) (C_X8_shift) ?_
        refine mJ_goto 236 dX8_places_232 rfl ?_
        refine mJ_put dX8_places_236 p_X8_66 rfl (Nat.le_of_ble_eq_true rfl) rfl rfl (h2 := mH _ _ _ _ _ _ _ _ _ _ _ _ _ _ _ _ _ _ _ _ _) rfl ?_
        refine mJ_aload_n dX8_places_239 rfl ?_
        refine mJ_dup dX8_places_240 rfl ?_
        refine mJ_get dX8_places_241 f_X8_59 rfl rfl ?_
        refine mJ_aload_n dX8_places_244 rfl ?_
        refine mJ_get dX8_places_245 f_X8_66 rfl rfl ?_
        refine mJ_isub dX8_places_248 ?_
        refine mJ_put dX8_places_249 p_X8_59 rfl (Nat.le_of_ble_eq_true rfl) rfl rfl (h2 := mH _ _ _ _ _ _ _ _ _ _ _ _ _ _ _ _ _ _ _ _ _) rfl ?_
        refine mJ_aload_n dX8_places_252 rfl ?_
        refine mJ_aload_n dX8_places_253 rfl ?_
        refine mJ_aload_n dX8_places_254 rfl ?_
        refine mJ_get dX8_places_255 f_X8_59 rfl rfl ?_
        refine mJ_iload dX8_places_258 rfl ?_
        refine mJ_cV2i dX8_places_260 e_X8_isGood n_X8_48 ⟨Nat.le_of_ble_eq_true rfl, Nat.le_of_ble_eq_true rfl⟩ rfl rfl (Nat.le_of_ble_eq_true rfl) (C_X8_isGood) ?_
        refine mJ_put dX8_places_263 p_X8_69 rfl (Nat.le_of_ble_eq_true rfl) (m_nz (b2i_01 _)).1 (m_nz (b2i_01 _)).2 (h2 := mH _ _ _ _ _ _ _ _ _ _ _ _ _ _ _ _ _ _ _ _ _) rfl ?_
        refine mJ_iload dX8_places_266 rfl ?_
        refine mJ_aload_n dX8_places_268 rfl ?_
        refine mJ_get dX8_places_269 f_X8_66 rfl rfl ?_
        refine mJ_iadd dX8_places_272 ?_
        refine mJ_istore dX8_places_273 (Nat.le_of_ble_eq_true rfl) (ls2 := [_, _, _, _, _, _, _, _, _, _, _, _, _, _, _]) rfl ?_
        refine mJ_aload_n dX8_places_275 rfl ?_
        refine mJ_iload dX8_places_276 rfl ?_
        refine mJ_if_eq 286 dX8_places_278 rfl (fun c => absurd c (by decide)) (fun _ => ?_)
        refine mJ_iload dX8_places_281 rfl ?_
        refine mJ_goto 322 dX8_places_283 rfl ?_
        refine mJ_put dX8_places_322 p_X8_73 rfl (Nat.le_of_ble_eq_true rfl) rfl rfl (h2 := mH _ _ _ _ _ _ _ _ _ _ _ _ _ _ _ _ _ _ _ _ _) rfl ?_
        refine mJ_aload_n dX8_places_325 rfl ?_
        refine mJ_iload dX8_places_326 rfl ?_
        refine mJ_if_ne 336 dX8_places_328 rfl (fun _ => ?_) (fun c => absurd c (by decide))
        refine mJ_iload_n dX8_places_336 rfl ?_
        refine mJ_iconst (v := 2) dX8_places_337 rfl ?_
        refine mJ_icmp_ne 360 dX8_places_338 rfl (fun _ => ?_) (fun c => absurd c (by decide))
        refine mJ_iload dX8_places_360 rfl ?_
        refine mJ_aload_n dX8_places_362 rfl ?_
        refine mJ_get dX8_places_363 f_X8_7 rfl rfl ?_
        refine mJ_iconst (v := 4) dX8_places_366 rfl ?_
        refine mJ_ialdN dX8_places_367 rfl (j := 4) ⟨rfl, by decide, by decide⟩ ?_
        refine mJ_isub dX8_places_368 ?_
        refine mJ_iload dX8_places_369 rfl ?_
        refine mJ_isub dX8_places_371 ?_
        refine mJ_put dX8_places_372 p_X8_76 rfl (Nat.le_of_ble_eq_true rfl) rfl rfl (h2 := mH _ _ _ _ _ _ _ _ _ _ _ _ _ _ _ _ _ _ _ _ _) rfl ?_
        exact mJ_vret dX8_places_375 rfl (rfl) (by have hp := p_an_of ha0 ha; simp_all [p_x, p_y, p_al, p_gd, p_ar, p_sh, p_a0, p_b0, p_ln, p_sz, p_bg, iif_lv0, iif_lv1, iif_lv2, iif_lv3, iif_bf0, iif_bf1, iif_bf2, iif_bf3])
    · refine mJ_iload dX8_places_135 rfl ?_
      refine mJ_iload dX8_places_137 rfl ?_
      refine mJ_iload dX8_places_139 rfl ?_
      refine mJ_isub dX8_places_141 ?_
      refine mJ_cS1i dX8_places_142 e_X8_half n_X8_55 ⟨Nat.le_of_ble_eq_true rfl, Nat.le_of_ble_eq_true rfl⟩ (Nat.le_of_ble_eq_true rfl) (C_X8_half) ?_
      refine mJ_iadd dX8_places_145 ?_
      refine mJ_goto 157 dX8_places_146 rfl ?_
      refine mJ_istore dX8_places_157 (Nat.le_of_ble_eq_true rfl) (ls2 := [_, _, _, _, _, _, _, _, _, _, _, _, _, _, _]) rfl ?_
      refine mJ_aload_n dX8_places_159 rfl ?_
      refine mJ_iload dX8_places_160 rfl ?_
      refine mJ_iload dX8_places_162 rfl ?_
      refine mJ_isub dX8_places_164 ?_
      refine mJ_put dX8_places_165 p_X8_59 rfl (Nat.le_of_ble_eq_true rfl) rfl rfl (h2 := mH _ _ _ _ _ _ _ _ _ _ _ _ _ _ _ _ _ _ _ _ _) rfl ?_
      refine mJ_aload_n dX8_places_168 rfl ?_
      refine mJ_aload_n dX8_places_169 rfl ?_
      refine mJ_iload_n dX8_places_170 rfl ?_
      refine mJ_bipush (v := 6) dX8_places_171 rfl ?_
      refine mJ_cV2i dX8_places_173 e_X8_ofHint n_X8_52 ⟨Nat.le_of_ble_eq_true rfl, Nat.le_of_ble_eq_true rfl⟩ rfl rfl (Nat.le_of_ble_eq_true rfl) (C_X8_ofHint (w := 6) hh (by decide)) ?_
      refine mJ_iconst (v := 1) dX8_places_176 rfl ?_
      refine mJ_icmp_ne 235 dX8_places_177 rfl (fun c_177 => ?_) (fun c_177 => ?_)
      · refine mJ_iconst (v := 0) dX8_places_235 rfl ?_
        refine mJ_put dX8_places_236 p_X8_66 rfl (Nat.le_of_ble_eq_true rfl) rfl rfl (h2 := mH _ _ _ _ _ _ _ _ _ _ _ _ _ _ _ _ _ _ _ _ _) rfl ?_
        refine mJ_aload_n dX8_places_239 rfl ?_
        refine mJ_dup dX8_places_240 rfl ?_
        refine mJ_get dX8_places_241 f_X8_59 rfl rfl ?_
        refine mJ_aload_n dX8_places_244 rfl ?_
        refine mJ_get dX8_places_245 f_X8_66 rfl rfl ?_
        refine mJ_isub dX8_places_248 ?_
        refine mJ_put dX8_places_249 p_X8_59 rfl (Nat.le_of_ble_eq_true rfl) rfl rfl (h2 := mH _ _ _ _ _ _ _ _ _ _ _ _ _ _ _ _ _ _ _ _ _) rfl ?_
        refine mJ_aload_n dX8_places_252 rfl ?_
        refine mJ_aload_n dX8_places_253 rfl ?_
        refine mJ_aload_n dX8_places_254 rfl ?_
        refine mJ_get dX8_places_255 f_X8_59 rfl rfl ?_
        refine mJ_iload dX8_places_258 rfl ?_
        refine mJ_cV2i dX8_places_260 e_X8_isGood n_X8_48 ⟨Nat.le_of_ble_eq_true rfl, Nat.le_of_ble_eq_true rfl⟩ rfl rfl (Nat.le_of_ble_eq_true rfl) (C_X8_isGood) ?_
        refine mJ_put dX8_places_263 p_X8_69 rfl (Nat.le_of_ble_eq_true rfl) (m_nz (b2i_01 _)).1 (m_nz (b2i_01 _)).2 (h2 := mH _ _ _ _ _ _ _ _ _ _ _ _ _ _ _ _ _ _ _ _ _) rfl ?_
        refine mJ_iload dX8_places_266 rfl ?_
        refine mJ_aload_n dX8_places_268 rfl ?_
        refine mJ_get dX8_places_269 f_X8_66 rfl rfl ?_
        refine mJ_iadd dX8_places_272 ?_
        refine mJ_istore dX8_places_273 (Nat.le_of_ble_eq_true rfl) (ls2 := [_, _, _, _, _, _, _, _, _, _, _, _, _, _, _]) rfl ?_
        refine mJ_aload_n dX8_places_275 rfl ?_
        refine mJ_iload dX8_places_276 rfl ?_
        refine mJ_if_eq 286 dX8_places_278 rfl (fun c => absurd c (by decide)) (fun _ => ?_)
        refine mJ_iload dX8_places_281 rfl ?_
        refine mJ_goto 322 dX8_places_283 rfl ?_
        refine mJ_put dX8_places_322 p_X8_73 rfl (Nat.le_of_ble_eq_true rfl) rfl rfl (h2 := mH _ _ _ _ _ _ _ _ _ _ _ _ _ _ _ _ _ _ _ _ _) rfl ?_
        refine mJ_aload_n dX8_places_325 rfl ?_
        refine mJ_iload dX8_places_326 rfl ?_
        refine mJ_if_ne 336 dX8_places_328 rfl (fun _ => ?_) (fun c => absurd c (by decide))
        refine mJ_iload_n dX8_places_336 rfl ?_
        refine mJ_iconst (v := 2) dX8_places_337 rfl ?_
        refine mJ_icmp_ne 360 dX8_places_338 rfl (fun _ => ?_) (fun c => absurd c (by decide))
        refine mJ_iload dX8_places_360 rfl ?_
        refine mJ_aload_n dX8_places_362 rfl ?_
        refine mJ_get dX8_places_363 f_X8_7 rfl rfl ?_
        refine mJ_iconst (v := 4) dX8_places_366 rfl ?_
        refine mJ_ialdN dX8_places_367 rfl (j := 4) ⟨rfl, by decide, by decide⟩ ?_
        refine mJ_isub dX8_places_368 ?_
        refine mJ_iload dX8_places_369 rfl ?_
        refine mJ_isub dX8_places_371 ?_
        refine mJ_put dX8_places_372 p_X8_76 rfl (Nat.le_of_ble_eq_true rfl) rfl rfl (h2 := mH _ _ _ _ _ _ _ _ _ _ _ _ _ _ _ _ _ _ _ _ _) rfl ?_
        exact mJ_vret dX8_places_375 rfl (rfl) (by have hp := p_an_of ha0 ha; simp_all [p_x, p_y, p_al, p_gd, p_ar, p_sh, p_a0, p_b0, p_ln, p_sz, p_bg, iif_lv0, iif_lv1, iif_lv2, iif_lv3, iif_bf0, iif_bf1, iif_bf2, iif_bf3])
      · refine mJ_aload_n dX8_places_180 rfl ?_
        refine mJ_iload dX8_places_181 rfl ?_
        refine mJ_iload dX8_places_183 rfl ?_
        refine mJ_aload_n dX8_places_185 rfl ?_
        refine mJ_get dX8_places_186 f_X8_59 rfl rfl ?_
        refine mJ_iload dX8_places_189 rfl ?_
        refine mJ_if_eq 203 dX8_places_191 rfl (fun c => absurd c (by decide)) (fun _ => ?_)
        refine mJ_aload_n dX8_places_194 rfl ?_
        refine mJ_get dX8_places_195 f_X8_7 rfl rfl ?_
        refine mJ_iconst (v := 0) dX8_places_198 rfl ?_
        refine mJ_ialdN dX8_places_199 rfl (j := 0) ⟨rfl, by decide, by decide⟩ ?_
        refine mJ_goto 209 dX8_places_200 rfl ?_
        refine mJ_iload dX8_places_209 rfl ?_
        refine mJ_if_eq 223 dX8_places_211 rfl (fun c => absurd c (by decide)) (fun _ => ?_)
        refine mJ_aload_n dX8_places_214 rfl ?_
        refine mJ_get dX8_places_215 f_X8_7 rfl rfl ?_
        refine mJ_iconst (v := 2) dX8_places_218 rfl ?_
        refine mJ_ialdN dX8_places_219 rfl (j := 2) ⟨rfl, by decide, by decide⟩ ?_
        refine mJ_goto 229 dX8_places_220 rfl ?_
        refine mJ_cV5i dX8_places_229 e_X8_shift n_X8_62 ⟨Nat.le_of_ble_eq_true rfl, Nat.le_of_ble_eq_true rfl⟩ rfl rfl (Nat.le_of_ble_eq_true rfl) (C_X8_shift) ?_
        refine mJ_goto 236 dX8_places_232 rfl ?_
        refine mJ_put dX8_places_236 p_X8_66 rfl (Nat.le_of_ble_eq_true rfl) rfl rfl (h2 := mH _ _ _ _ _ _ _ _ _ _ _ _ _ _ _ _ _ _ _ _ _) rfl ?_
        refine mJ_aload_n dX8_places_239 rfl ?_
        refine mJ_dup dX8_places_240 rfl ?_
        refine mJ_get dX8_places_241 f_X8_59 rfl rfl ?_
        refine mJ_aload_n dX8_places_244 rfl ?_
        refine mJ_get dX8_places_245 f_X8_66 rfl rfl ?_
        refine mJ_isub dX8_places_248 ?_
        refine mJ_put dX8_places_249 p_X8_59 rfl (Nat.le_of_ble_eq_true rfl) rfl rfl (h2 := mH _ _ _ _ _ _ _ _ _ _ _ _ _ _ _ _ _ _ _ _ _) rfl ?_
        refine mJ_aload_n dX8_places_252 rfl ?_
        refine mJ_aload_n dX8_places_253 rfl ?_
        refine mJ_aload_n dX8_places_254 rfl ?_
        refine mJ_get dX8_places_255 f_X8_59 rfl rfl ?_
        refine mJ_iload dX8_places_258 rfl ?_
        refine mJ_cV2i dX8_places_260 e_X8_isGood n_X8_48 ⟨Nat.le_of_ble_eq_true rfl, Nat.le_of_ble_eq_true rfl⟩ rfl rfl (Nat.le_of_ble_eq_true rfl) (C_X8_isGood) ?_
        refine mJ_put dX8_places_263 p_X8_69 rfl (Nat.le_of_ble_eq_true rfl) (m_nz (b2i_01 _)).1 (m_nz (b2i_01 _)).2 (h2 := mH _ _ _ _ _ _ _ _ _ _ _ _ _ _ _ _ _ _ _ _ _) rfl ?_
        refine mJ_iload dX8_places_266 rfl ?_
        refine mJ_aload_n dX8_places_268 rfl ?_
        refine mJ_get dX8_places_269 f_X8_66 rfl rfl ?_
        refine mJ_iadd dX8_places_272 ?_
        refine mJ_istore dX8_places_273 (Nat.le_of_ble_eq_true rfl) (ls2 := [_, _, _, _, _, _, _, _, _, _, _, _, _, _, _]) rfl ?_
        refine mJ_aload_n dX8_places_275 rfl ?_
        refine mJ_iload dX8_places_276 rfl ?_
        refine mJ_if_eq 286 dX8_places_278 rfl (fun c => absurd c (by decide)) (fun _ => ?_)
        refine mJ_iload dX8_places_281 rfl ?_
        refine mJ_goto 322 dX8_places_283 rfl ?_
        refine mJ_put dX8_places_322 p_X8_73 rfl (Nat.le_of_ble_eq_true rfl) rfl rfl (h2 := mH _ _ _ _ _ _ _ _ _ _ _ _ _ _ _ _ _ _ _ _ _) rfl ?_
        refine mJ_aload_n dX8_places_325 rfl ?_
        refine mJ_iload dX8_places_326 rfl ?_
        refine mJ_if_ne 336 dX8_places_328 rfl (fun _ => ?_) (fun c => absurd c (by decide))
        refine mJ_iload_n dX8_places_336 rfl ?_
        refine mJ_iconst (v := 2) dX8_places_337 rfl ?_
        refine mJ_icmp_ne 360 dX8_places_338 rfl (fun _ => ?_) (fun c => absurd c (by decide))
        refine mJ_iload dX8_places_360 rfl ?_
        refine mJ_aload_n dX8_places_362 rfl ?_
        refine mJ_get dX8_places_363 f_X8_7 rfl rfl ?_
        refine mJ_iconst (v := 4) dX8_places_366 rfl ?_
        refine mJ_ialdN dX8_places_367 rfl (j := 4) ⟨rfl, by decide, by decide⟩ ?_
        refine mJ_isub dX8_places_368 ?_
        refine mJ_iload dX8_places_369 rfl ?_
        refine mJ_isub dX8_places_371 ?_
        refine mJ_put dX8_places_372 p_X8_76 rfl (Nat.le_of_ble_eq_true rfl) rfl rfl (h2 := mH _ _ _ _ _ _ _ _ _ _ _ _ _ _ _ _ _ _ _ _ _) rfl ?_
        exact mJ_vret dX8_places_375 rfl (rfl) (by have hp := p_an_of ha0 ha; simp_all [p_x, p_y, p_al, p_gd, p_ar, p_sh, p_a0, p_b0, p_ln, p_sz, p_bg, iif_lv0, iif_lv1, iif_lv2, iif_lv3, iif_bf0, iif_bf1, iif_bf2, iif_bf3])
  · refine mJ_iload dX8_places_124 rfl ?_
    refine mJ_goto 157 dX8_places_126 rfl ?_
    refine mJ_istore dX8_places_157 (Nat.le_of_ble_eq_true rfl) (ls2 := [_, _, _, _, _, _, _, _, _, _, _, _, _, _, _]) rfl ?_
    refine mJ_aload_n dX8_places_159 rfl ?_
    refine mJ_iload dX8_places_160 rfl ?_
    refine mJ_iload dX8_places_162 rfl ?_
    refine mJ_isub dX8_places_164 ?_
    refine mJ_put dX8_places_165 p_X8_59 rfl (Nat.le_of_ble_eq_true rfl) rfl rfl (h2 := mH _ _ _ _ _ _ _ _ _ _ _ _ _ _ _ _ _ _ _ _ _) rfl ?_
    refine mJ_aload_n dX8_places_168 rfl ?_
    refine mJ_aload_n dX8_places_169 rfl ?_
    refine mJ_iload_n dX8_places_170 rfl ?_
    refine mJ_bipush (v := 6) dX8_places_171 rfl ?_
    refine mJ_cV2i dX8_places_173 e_X8_ofHint n_X8_52 ⟨Nat.le_of_ble_eq_true rfl, Nat.le_of_ble_eq_true rfl⟩ rfl rfl (Nat.le_of_ble_eq_true rfl) (C_X8_ofHint (w := 6) hh (by decide)) ?_
    refine mJ_iconst (v := 1) dX8_places_176 rfl ?_
    refine mJ_icmp_ne 235 dX8_places_177 rfl (fun c_177 => ?_) (fun c_177 => ?_)
    · refine mJ_iconst (v := 0) dX8_places_235 rfl ?_
      refine mJ_put dX8_places_236 p_X8_66 rfl (Nat.le_of_ble_eq_true rfl) rfl rfl (h2 := mH _ _ _ _ _ _ _ _ _ _ _ _ _ _ _ _ _ _ _ _ _) rfl ?_
      refine mJ_aload_n dX8_places_239 rfl ?_
      refine mJ_dup dX8_places_240 rfl ?_
      refine mJ_get dX8_places_241 f_X8_59 rfl rfl ?_
      refine mJ_aload_n dX8_places_244 rfl ?_
      refine mJ_get dX8_places_245 f_X8_66 rfl rfl ?_
      refine mJ_isub dX8_places_248 ?_
      refine mJ_put dX8_places_249 p_X8_59 rfl (Nat.le_of_ble_eq_true rfl) rfl rfl (h2 := mH _ _ _ _ _ _ _ _ _ _ _ _ _ _ _ _ _ _ _ _ _) rfl ?_
      refine mJ_aload_n dX8_places_252 rfl ?_
      refine mJ_aload_n dX8_places_253 rfl ?_
      refine mJ_aload_n dX8_places_254 rfl ?_
      refine mJ_get dX8_places_255 f_X8_59 rfl rfl ?_
      refine mJ_iload dX8_places_258 rfl ?_
      refine mJ_cV2i dX8_places_260 e_X8_isGood n_X8_48 ⟨Nat.le_of_ble_eq_true rfl, Nat.le_of_ble_eq_true rfl⟩ rfl rfl (Nat.le_of_ble_eq_true rfl) (C_X8_isGood) ?_
      refine mJ_put dX8_places_263 p_X8_69 rfl (Nat.le_of_ble_eq_true rfl) (m_nz (b2i_01 _)).1 (m_nz (b2i_01 _)).2 (h2 := mH _ _ _ _ _ _ _ _ _ _ _ _ _ _ _ _ _ _ _ _ _) rfl ?_
      refine mJ_iload dX8_places_266 rfl ?_
      refine mJ_aload_n dX8_places_268 rfl ?_
      refine mJ_get dX8_places_269 f_X8_66 rfl rfl ?_
      refine mJ_iadd dX8_places_272 ?_
      refine mJ_istore dX8_places_273 (Nat.le_of_ble_eq_true rfl) (ls2 := [_, _, _, _, _, _, _, _, _, _, _, _, _, _, _]) rfl ?_
      refine mJ_aload_n dX8_places_275 rfl ?_
      refine mJ_iload dX8_places_276 rfl ?_
      refine mJ_if_eq 286 dX8_places_278 rfl (fun c => absurd c (by decide)) (fun _ => ?_)
      refine mJ_iload dX8_places_281 rfl ?_
      refine mJ_goto 322 dX8_places_283 rfl ?_
      refine mJ_put dX8_places_322 p_X8_73 rfl (Nat.le_of_ble_eq_true rfl) rfl rfl (h2 := mH _ _ _ _ _ _ _ _ _ _ _ _ _ _ _ _ _ _ _ _ _) rfl ?_
      refine mJ_aload_n dX8_places_325 rfl ?_
      refine mJ_iload dX8_places_326 rfl ?_
      refine mJ_if_ne 336 dX8_places_328 rfl (fun _ => ?_) (fun c => absurd c (by decide))
      refine mJ_iload_n dX8_places_336 rfl ?_
      refine mJ_iconst (v := 2) dX8_places_337 rfl ?_
      refine mJ_icmp_ne 360 dX8_places_338 rfl (fun _ => ?_) (fun c => absurd c (by decide))
      refine mJ_iload dX8_places_360 rfl ?_
      refine mJ_aload_n dX8_places_362 rfl ?_
      refine mJ_get dX8_places_363 f_X8_7 rfl rfl ?_
      refine mJ_iconst (v := 4) dX8_places_366 rfl ?_
      refine mJ_ialdN dX8_places_367 rfl (j := 4) ⟨rfl, by decide, by decide⟩ ?_
      refine mJ_isub dX8_places_368 ?_
      refine mJ_iload dX8_places_369 rfl ?_
      refine mJ_isub dX8_places_371 ?_
      refine mJ_put dX8_places_372 p_X8_76 rfl (Nat.le_of_ble_eq_true rfl) rfl rfl (h2 := mH _ _ _ _ _ _ _ _ _ _ _ _ _ _ _ _ _ _ _ _ _) rfl ?_
      exact mJ_vret dX8_places_375 rfl (rfl) (by have hp := p_an_of ha0 ha; simp_all [p_x, p_y, p_al, p_gd, p_ar, p_sh, p_a0, p_b0, p_ln, p_sz, p_bg, iif_lv0, iif_lv1, iif_lv2, iif_lv3, iif_bf0, iif_bf1, iif_bf2, iif_bf3])
    · refine mJ_aload_n dX8_places_180 rfl ?_
      refine mJ_iload dX8_places_181 rfl ?_
      refine mJ_iload dX8_places_183 rfl ?_
      refine mJ_aload_n dX8_places_185 rfl ?_
      refine mJ_get dX8_places_186 f_X8_59 rfl rfl ?_
      refine mJ_iload dX8_places_189 rfl ?_
      refine mJ_if_eq 203 dX8_places_191 rfl (fun c => absurd c (by decide)) (fun _ => ?_)
      refine mJ_aload_n dX8_places_194 rfl ?_
      refine mJ_get dX8_places_195 f_X8_7 rfl rfl ?_
      refine mJ_iconst (v := 0) dX8_places_198 rfl ?_
      refine mJ_ialdN dX8_places_199 rfl (j := 0) ⟨rfl, by decide, by decide⟩ ?_
      refine mJ_goto 209 dX8_places_200 rfl ?_
      refine mJ_iload dX8_places_209 rfl ?_
      refine mJ_if_eq 223 dX8_places_211 rfl (fun c => absurd c (by decide)) (fun _ => ?_)
      refine mJ_aload_n dX8_places_214 rfl ?_
      refine mJ_get dX8_places_215 f_X8_7 rfl rfl ?_
      refine mJ_iconst (v := 2) dX8_places_218 rfl ?_
      refine mJ_ialdN dX8_places_219 rfl (j := 2) ⟨rfl, by decide, by decide⟩ ?_
      refine mJ_goto 229 dX8_places_220 rfl ?_
      refine mJ_cV5i dX8_places_229 e_X8_shift n_X8_62 ⟨Nat.le_of_ble_eq_true rfl, Nat.le_of_ble_eq_true rfl⟩ rfl rfl (Nat.le_of_ble_eq_true rfl) (C_X8_shift) ?_
      refine mJ_goto 236 dX8_places_232 rfl ?_
      refine mJ_put dX8_places_236 p_X8_66 rfl (Nat.le_of_ble_eq_true rfl) rfl rfl (h2 := mH _ _ _ _ _ _ _ _ _ _ _ _ _ _ _ _ _ _ _ _ _) rfl ?_
      refine mJ_aload_n dX8_places_239 rfl ?_
      refine mJ_dup dX8_places_240 rfl ?_
      refine mJ_get dX8_places_241 f_X8_59 rfl rfl ?_
      refine mJ_aload_n dX8_places_244 rfl ?_
      refine mJ_get dX8_places_245 f_X8_66 rfl rfl ?_
      refine mJ_isub dX8_places_248 ?_
      refine mJ_put dX8_places_249 p_X8_59 rfl (Nat.le_of_ble_eq_true rfl) rfl rfl (h2 := mH _ _ _ _ _ _ _ _ _ _ _ _ _ _ _ _ _ _ _ _ _) rfl ?_
      refine mJ_aload_n dX8_places_252 rfl ?_
      refine mJ_aload_n dX8_places_253 rfl ?_
      refine mJ_aload_n dX8_places_254 rfl ?_
      refine mJ_get dX8_places_255 f_X8_59 rfl rfl ?_
      refine mJ_iload dX8_places_258 rfl ?_
      refine mJ_cV2i dX8_places_260 e_X8_isGood n_X8_48 ⟨Nat.le_of_ble_eq_true rfl, Nat.le_of_ble_eq_true rfl⟩ rfl rfl (Nat.le_of_ble_eq_true rfl) (C_X8_isGood) ?_
      refine mJ_put dX8_places_263 p_X8_69 rfl (Nat.le_of_ble_eq_true rfl) (m_nz (b2i_01 _)).1 (m_nz (b2i_01 _)).2 (h2 := mH _ _ _ _ _ _ _ _ _ _ _ _ _ _ _ _ _ _ _ _ _) rfl ?_
      refine mJ_iload dX8_places_266 rfl ?_
      refine mJ_aload_n dX8_places_268 rfl ?_
      refine mJ_get dX8_places_269 f_X8_66 rfl rfl ?_
      refine mJ_iadd dX8_places_272 ?_
      refine mJ_istore dX8_places_273 (Nat.le_of_ble_eq_true rfl) (ls2 := [_, _, _, _, _, _, _, _, _, _, _, _, _, _, _]) rfl ?_
      refine mJ_aload_n dX8_places_275 rfl ?_
      refine mJ_iload dX8_places_276 rfl ?_
      refine mJ_if_eq 286 dX8_places_278 rfl (fun c => absurd c (by decide)) (fun _ => ?_)
      refine mJ_iload dX8_places_281 rfl ?_
      refine mJ_goto 322 dX8_places_283 rfl ?_
      refine mJ_put dX8_places_322 p_X8_73 rfl (Nat.le_of_ble_eq_true rfl) rfl rfl (h2 := mH _ _ _ _ _ _ _ _ _ _ _ _ _ _ _ _ _ _ _ _ _) rfl ?_
      refine mJ_aload_n dX8_places_325 rfl ?_
      refine mJ_iload dX8_places_326 rfl ?_
      refine mJ_if_ne 336 dX8_places_328 rfl (fun _ => ?_) (fun c => absurd c (by decide))
      refine mJ_iload_n dX8_places_336 rfl ?_
      refine mJ_iconst (v := 2) dX8_places_337 rfl ?_
      refine mJ_icmp_ne 360 dX8_places_338 rfl (fun _ => ?_) (fun c => absurd c (by decide))
      refine mJ_iload dX8_places_360 rfl ?_
      refine mJ_aload_n dX8_places_362 rfl ?_
      refine mJ_get dX8_places_363 f_X8_7 rfl rfl ?_
      refine mJ_iconst (v := 4) dX8_places_366 rfl ?_
      refine mJ_ialdN dX8_places_367 rfl (j := 4) ⟨rfl, by decide, by decide⟩ ?_
      refine mJ_isub dX8_places_368 ?_
      refine mJ_iload dX8_places_369 rfl ?_
      refine mJ_isub dX8_places_371 ?_
      refine mJ_put dX8_places_372 p_X8_76 rfl (Nat.le_of_ble_eq_true rfl) rfl rfl (h2 := mH _ _ _ _ _ _ _ _ _ _ _ _ _ _ _ _ _ _ _ _ _) rfl ?_
      exact mJ_vret dX8_places_375 rfl (rfl) (by have hp := p_an_of ha0 ha; simp_all [p_x, p_y, p_al, p_gd, p_ar, p_sh, p_a0, p_b0, p_ln, p_sz, p_bg, iif_lv0, iif_lv1, iif_lv2, iif_lv3, iif_bf0, iif_bf1, iif_bf2, iif_bf3])
set_option maxHeartbeats 4000000 in
set_option maxRecDepth 100000 in
theorem C_X8_places_1 {d was text ord why son tri : aF} {sta typ at_ sig fst snd rea lef top shf arr goo shn trs : Int32} {h a : Nat} (hh : h < 12) (ha0 : dH d h 0 = nI a) (ha : a < 10) : mCt k_X8_places [.ref 0, .int (nI h), .int 1] (mH d was sta text typ at_ sig fst snd rea lef top shf arr goo ord why son shn tri trs) none (mH d was sta text typ at_ sig fst snd rea (p_x d h 1) (p_y d h 1) (p_sh d h 1) (p_ar d h 1) (b2i (p_gd d h 1)) ord why son shn tri trs) := by
  refine mCt_intro (plainFor_of_name rfl) (Nat.le_of_ble_eq_true rfl) (m_all rfl) (ls := [_, _, _, _, _, _, _, _, _, _, _, _, _, _, _]) rfl ?_
  refine mJ_aload_n dX8_places_0 rfl ?_
  refine mJ_iload_n dX8_places_1 rfl ?_
  refine mJ_iconst (v := 0) dX8_places_2 rfl ?_
  refine mJ_cV2i dX8_places_3 e_X8_ofHint n_X8_52 ⟨Nat.le_of_ble_eq_true rfl, Nat.le_of_ble_eq_true rfl⟩ rfl rfl (Nat.le_of_ble_eq_true rfl) (C_X8_ofHint (w := 0) hh (by decide)) ?_
  refine mJ_top ha0 ?_
  refine mJ_istore_n dX8_places_6 (Nat.le_of_ble_eq_true rfl) (ls2 := [_, _, _, _, _, _, _, _, _, _, _, _, _, _, _]) rfl ?_
  refine mJ_iload_n dX8_places_7 rfl ?_
  refine mJ_iconst (v := 2) dX8_places_8 rfl ?_
  refine mJ_irem dX8_places_9 (by decide) ?_
  refine mJ_top (show (1 : Int32) - 1 / 2 * 2 = 1 by decide) ?_
  refine mJ_if_ne 17 dX8_places_10 rfl (fun _ => ?_) (fun c => absurd c (by decide))
  refine mJ_iconst (v := 0) dX8_places_17 rfl ?_
  refine mJ_istore dX8_places_18 (Nat.le_of_ble_eq_true rfl) (ls2 := [_, _, _, _, _, _, _, _, _, _, _, _, _, _, _]) rfl ?_
  refine mJ_aload_n dX8_places_20 rfl ?_
  refine mJ_iload_n dX8_places_21 rfl ?_
  refine mJ_iconst (v := 0) dX8_places_22 rfl ?_
  refine mJ_cV2i dX8_places_23 e_X8_ofAnchor n_X8_40 ⟨Nat.le_of_ble_eq_true rfl, Nat.le_of_ble_eq_true rfl⟩ rfl rfl (Nat.le_of_ble_eq_true rfl) (C_X8_ofAnchor (w := 0) ha (by decide)) ?_
  refine mJ_istore dX8_places_26 (Nat.le_of_ble_eq_true rfl) (ls2 := [_, _, _, _, _, _, _, _, _, _, _, _, _, _, _]) rfl ?_
  refine mJ_aload_n dX8_places_28 rfl ?_
  refine mJ_iload_n dX8_places_29 rfl ?_
  refine mJ_iconst (v := 1) dX8_places_30 rfl ?_
  refine mJ_cV2i dX8_places_31 e_X8_ofAnchor n_X8_40 ⟨Nat.le_of_ble_eq_true rfl, Nat.le_of_ble_eq_true rfl⟩ rfl rfl (Nat.le_of_ble_eq_true rfl) (C_X8_ofAnchor (w := 1) ha (by decide)) ?_
  refine mJ_istore dX8_places_34 (Nat.le_of_ble_eq_true rfl) (ls2 := [_, _, _, _, _, _, _, _, _, _, _, _, _, _, _]) rfl ?_
  refine mJ_aload_n dX8_places_36 rfl ?_
  refine mJ_iload_n dX8_places_37 rfl ?_
  refine mJ_iconst (v := 1) dX8_places_38 rfl ?_
  refine mJ_cV2i dX8_places_39 e_X8_ofHint n_X8_52 ⟨Nat.le_of_ble_eq_true rfl, Nat.le_of_ble_eq_true rfl⟩ rfl rfl (Nat.le_of_ble_eq_true rfl) (C_X8_ofHint (w := 1) hh (by decide)) ?_
  refine mJ_istore dX8_places_42 (Nat.le_of_ble_eq_true rfl) (ls2 := [_, _, _, _, _, _, _, _, _, _, _, _, _, _, _]) rfl ?_
  refine mJ_aload_n dX8_places_44 rfl ?_
  refine mJ_iload_n dX8_places_45 rfl ?_
  refine mJ_iconst (v := 2) dX8_places_46 rfl ?_
  refine mJ_cV2i dX8_places_47 e_X8_ofHint n_X8_52 ⟨Nat.le_of_ble_eq_true rfl, Nat.le_of_ble_eq_true rfl⟩ rfl rfl (Nat.le_of_ble_eq_true rfl) (C_X8_ofHint (w := 2) hh (by decide)) ?_
  refine mJ_istore dX8_places_50 (Nat.le_of_ble_eq_true rfl) (ls2 := [_, _, _, _, _, _, _, _, _, _, _, _, _, _, _]) rfl ?_
  refine mJ_iload dX8_places_52 rfl ?_
  refine mJ_if_eq 62 dX8_places_54 rfl (fun _ => ?_) (fun c => absurd c (by decide))
  refine mJ_iload dX8_places_62 rfl ?_
  refine mJ_istore dX8_places_64 (Nat.le_of_ble_eq_true rfl) (ls2 := [_, _, _, _, _, _, _, _, _, _, _, _, _, _, _]) rfl ?_
  refine mJ_iload dX8_places_66 rfl ?_
  refine mJ_if_eq 80 dX8_places_68 rfl (fun _ => ?_) (fun c => absurd c (by decide))
  refine mJ_aload_n dX8_places_80 rfl ?_
  refine mJ_iload_n dX8_places_81 rfl ?_
  refine mJ_iconst (v := 3) dX8_places_82 rfl ?_
  refine mJ_cV2i dX8_places_83 e_X8_ofAnchor n_X8_40 ⟨Nat.le_of_ble_eq_true rfl, Nat.le_of_ble_eq_true rfl⟩ rfl rfl (Nat.le_of_ble_eq_true rfl) (C_X8_ofAnchor (w := 3) ha (by decide)) ?_
  refine mJ_istore dX8_places_86 (Nat.le_of_ble_eq_true rfl) (ls2 := [_, _, _, _, _, _, _, _, _, _, _, _, _, _, _]) rfl ?_
  refine mJ_iload dX8_places_88 rfl ?_
  refine mJ_if_eq 98 dX8_places_90 rfl (fun _ => ?_) (fun c => absurd c (by decide))
  refine mJ_iload dX8_places_98 rfl ?_
  refine mJ_istore dX8_places_100 (Nat.le_of_ble_eq_true rfl) (ls2 := [_, _, _, _, _, _, _, _, _, _, _, _, _, _, _]) rfl ?_
  refine mJ_aload_n dX8_places_102 rfl ?_
  refine mJ_iload_n dX8_places_103 rfl ?_
  refine mJ_iconst (v := 4) dX8_places_104 rfl ?_
  refine mJ_cV2i dX8_places_105 e_X8_ofHint n_X8_52 ⟨Nat.le_of_ble_eq_true rfl, Nat.le_of_ble_eq_true rfl⟩ rfl rfl (Nat.le_of_ble_eq_true rfl) (C_X8_ofHint (w := 4) hh (by decide)) ?_
  refine mJ_istore dX8_places_108 (Nat.le_of_ble_eq_true rfl) (ls2 := [_, _, _, _, _, _, _, _, _, _, _, _, _, _, _]) rfl ?_
  refine mJ_iload dX8_places_110 rfl ?_
  refine mJ_iload dX8_places_112 rfl ?_
  refine mJ_iconst (v := 2) dX8_places_114 rfl ?_
  refine mJ_idiv dX8_places_115 (by decide) ?_
  refine mJ_iadd dX8_places_116 ?_
  refine mJ_istore dX8_places_117 (Nat.le_of_ble_eq_true rfl) (ls2 := [_, _, _, _, _, _, _, _, _, _, _, _, _, _, _]) rfl ?_
  refine mJ_iload dX8_places_119 rfl ?_
  refine mJ_if_ne 129 dX8_places_121 rfl (fun c_121 => ?_) (fun c_121 => ?_)
  · refine mJ_iload dX8_places_129 rfl ?_
    refine mJ_iconst (v := 1) dX8_places_131 rfl ?_
    refine mJ_icmp_ne 149 dX8_places_132 rfl (fun c_132 => ?_) (fun c_132 => ?_)
    · refine mJ_iload dX8_places_149 rfl ?_
      refine mJ_iload dX8_places_151 rfl ?_
      refine mJ_iadd dX8_places_153 ?_
      refine mJ_iload dX8_places_154 rfl ?_
      refine mJ_isub dX8_places_156 ?_
      refine mJ_istore dX8_places_157 (Nat.le_of_ble_eq_true rfl) (ls2 := [_, _, _, _, _, _, _, _, _, _, _, _, _, _, _]) rfl ?_
      refine mJ_aload_n dX8_places_159 rfl ?_
      refine mJ_iload dX8_places_160 rfl ?_
      refine mJ_iload dX8_places_162 rfl ?_
      refine mJ_isub dX8_places_164 ?_
      refine mJ_put dX8_places_165 p_X8_59 rfl (Nat.le_of_ble_eq_true rfl) rfl rfl (h2 := mH _ _ _ _ _ _ _ _ _ _ _ _ _ _ _ _ _ _ _ _ _) rfl ?_
      refine mJ_aload_n dX8_places_168 rfl ?_
      refine mJ_aload_n dX8_places_169 rfl ?_
      refine mJ_iload_n dX8_places_170 rfl ?_
      refine mJ_bipush (v := 6) dX8_places_171 rfl ?_
      refine mJ_cV2i dX8_places_173 e_X8_ofHint n_X8_52 ⟨Nat.le_of_ble_eq_true rfl, Nat.le_of_ble_eq_true rfl⟩ rfl rfl (Nat.le_of_ble_eq_true rfl) (C_X8_ofHint (w := 6) hh (by decide)) ?_
      refine mJ_iconst (v := 1) dX8_places_176 rfl ?_
      refine mJ_icmp_ne 235 dX8_places_177 rfl (fun c_177 => ?_) (fun c_177 => ?_)
      · refine mJ_iconst (v := 0) dX8_places_235 rfl ?_
        refine mJ_put dX8_places_236 p_X8_66 rfl (Nat.le_of_ble_eq_true rfl) rfl rfl (h2 := mH _ _ _ _ _ _ _ _ _ _ _ _ _ _ _ _ _ _ _ _ _) rfl ?_
        refine mJ_aload_n dX8_places_239 rfl ?_
        refine mJ_dup dX8_places_240 rfl ?_
        refine mJ_get dX8_places_241 f_X8_59 rfl rfl ?_
        refine mJ_aload_n dX8_places_244 rfl ?_
        refine mJ_get dX8_places_245 f_X8_66 rfl rfl ?_
        refine mJ_isub dX8_places_248 ?_
        refine mJ_put dX8_places_249 p_X8_59 rfl (Nat.le_of_ble_eq_true rfl) rfl rfl (h2 := mH _ _ _ _ _ _ _ _ _ _ _ _ _ _ _ _ _ _ _ _ _) rfl ?_
        refine mJ_aload_n dX8_places_252 rfl ?_
        refine mJ_aload_n dX8_places_253 rfl ?_
        refine mJ_aload_n dX8_places_254 rfl ?_
        refine mJ_get dX8_places_255 f_X8_59 rfl rfl ?_
        refine mJ_iload dX8_places_258 rfl ?_
        refine mJ_cV2i dX8_places_260 e_X8_isGood n_X8_48 ⟨Nat.le_of_ble_eq_true rfl, Nat.le_of_ble_eq_true rfl⟩ rfl rfl (Nat.le_of_ble_eq_true rfl) (C_X8_isGood) ?_
        refine mJ_put dX8_places_263 p_X8_69 rfl (Nat.le_of_ble_eq_true rfl) (m_nz (b2i_01 _)).1 (m_nz (b2i_01 _)).2 (h2 := mH _ _ _ _ _ _ _ _ _ _ _ _ _ _ _ _ _ _ _ _ _) rfl ?_
        refine mJ_iload dX8_places_266 rfl ?_
        refine mJ_aload_n dX8_places_268 rfl ?_
        refine mJ_get dX8_places_269 f_X8_66 rfl rfl ?_
        refine mJ_iadd dX8_places_272 ?_
        refine mJ_istore dX8_places_273 (Nat.le_of_ble_eq_true rfl) (ls2 := [_, _, _, _, _, _, _, _, _, _, _, _, _, _, _]) rfl ?_
        refine mJ_aload_n dX8_places_275 rfl ?_
        refine mJ_iload dX8_places_276 rfl ?_
        refine mJ_if_eq 286 dX8_places_278 rfl (fun _ => ?_) (fun c => absurd c (by decide))
        refine mJ_iload_n dX8_places_286 rfl ?_
        refine mJ_iconst (v := 1) dX8_places_287 rfl ?_
        refine mJ_icmp_ne 310 dX8_places_288 rfl (fun c => absurd c (by decide)) (fun _ => ?_)
        refine mJ_iload dX8_places_291 rfl ?_
        refine mJ_aload_n dX8_places_293 rfl ?_
        refine mJ_iload_n dX8_places_294 rfl ?_
        refine mJ_iconst (v := 2) dX8_places_295 rfl ?_
        refine mJ_cV2i dX8_places_296 e_X8_ofAnchor n_X8_40 ⟨Nat.le_of_ble_eq_true rfl, Nat.le_of_ble_eq_true rfl⟩ rfl rfl (Nat.le_of_ble_eq_true rfl) (C_X8_ofAnchor (w := 2) ha (by decide)) ?_
        refine mJ_iadd dX8_places_299 ?_
        refine mJ_aload_n dX8_places_300 rfl ?_
        refine mJ_get dX8_places_301 f_X8_7 rfl rfl ?_
        refine mJ_iconst (v := 4) dX8_places_304 rfl ?_
        refine mJ_ialdN dX8_places_305 rfl (j := 4) ⟨rfl, by decide, by decide⟩ ?_
        refine mJ_iadd dX8_places_306 ?_
        refine mJ_goto 322 dX8_places_307 rfl ?_
        refine mJ_put dX8_places_322 p_X8_73 rfl (Nat.le_of_ble_eq_true rfl) rfl rfl (h2 := mH _ _ _ _ _ _ _ _ _ _ _ _ _ _ _ _ _ _ _ _ _) rfl ?_
        refine mJ_aload_n dX8_places_325 rfl ?_
        refine mJ_iload dX8_places_326 rfl ?_
        refine mJ_if_ne 336 dX8_places_328 rfl (fun c => absurd c (by decide)) (fun _ => ?_)
        refine mJ_iload dX8_places_331 rfl ?_
        refine mJ_goto 372 dX8_places_333 rfl ?_
        refine mJ_put dX8_places_372 p_X8_76 rfl (Nat.le_of_ble_eq_true rfl) rfl rfl (h2 := mH _ _ _ _ _ _ _ _ _ _ _ _ _ _ _ _ _ _ _ _ _) rfl ?_
        exact mJ_vret dX8_places_375 rfl (rfl) (by have hp := p_an_of ha0 ha; simp_all [p_x, p_y, p_al, p_gd, p_ar, p_sh, p_a0, p_b0, p_ln, p_sz, p_bg, iif_lv0, iif_lv1, iif_lv2, iif_lv3, iif_bf0, iif_bf1, iif_bf2, iif_bf3])
      · refine mJ_aload_n dX8_places_180 rfl ?_
        refine mJ_iload dX8_places_181 rfl ?_
        refine mJ_iload dX8_places_183 rfl ?_
        refine mJ_aload_n dX8_places_185 rfl ?_
        refine mJ_get dX8_places_186 f_X8_59 rfl rfl ?_
        refine mJ_iload dX8_places_189 rfl ?_
        refine mJ_if_eq 203 dX8_places_191 rfl (fun _ => ?_) (fun c => absurd c (by decide))
        refine mJ_aload_n dX8_places_203 rfl ?_
        refine mJ_get dX8_places_204 f_X8_7 rfl rfl ?_
        refine mJ_iconst (v := 1) dX8_places_207 rfl ?_
        refine mJ_ialdN dX8_places_208 rfl (j := 1) ⟨rfl, by decide, by decide⟩ ?_
        refine mJ_iload dX8_places_209 rfl ?_
        refine mJ_if_eq 223 dX8_places_211 rfl (fun _ => ?_) (fun c => absurd c (by decide))
        refine mJ_aload_n dX8_places_223 rfl ?_
        refine mJ_get dX8_places_224 f_X8_7 rfl rfl ?_
        refine mJ_iconst (v := 3) dX8_places_227 rfl ?_
        refine mJ_ialdN dX8_places_228 rfl (j := 3) ⟨rfl, by decide, by decide⟩ ?_
        refine mJ_cV5i dX8_places_229 e_X8_shift n_X8_62 ⟨Nat.le_of_ble_eq_true rfl, Nat.le_of_ble_eq_true rfl⟩ rfl rfl (Nat.le_of_ble_eq_true rfl) (C_X8_shift) ?_
        refine mJ_goto 236 dX8_places_232 rfl ?_
        refine mJ_put dX8_places_236 p_X8_66 rfl (Nat.le_of_ble_eq_true rfl) rfl rfl (h2 := mH _ _ _ _ _ _ _ _ _ _ _ _ _ _ _ _ _ _ _ _ _) rfl ?_
        refine mJ_aload_n dX8_places_239 rfl ?_
        refine mJ_dup dX8_places_240 rfl ?_
        refine mJ_get dX8_places_241 f_X8_59 rfl rfl ?_
        refine mJ_aload_n dX8_places_244 rfl ?_
        refine mJ_get dX8_places_245 f_X8_66 rfl rfl ?_
        refine mJ_isub dX8_places_248 ?_
        refine mJ_put dX8_places_249 p_X8_59 rfl (Nat.le_of_ble_eq_true rfl) rfl rfl (h2 := mH _ _ _ _ _ _ _ _ _ _ _ _ _ _ _ _ _ _ _ _ _) rfl ?_
        refine mJ_aload_n dX8_places_252 rfl ?_
        refine mJ_aload_n dX8_places_253 rfl ?_
        refine mJ_aload_n dX8_places_254 rfl ?_
        refine mJ_get dX8_places_255 f_X8_59 rfl rfl ?_
        refine mJ_iload dX8_places_258 rfl ?_
        refine mJ_cV2i dX8_places_260 e_X8_isGood n_X8_48 ⟨Nat.le_of_ble_eq_true rfl, Nat.le_of_ble_eq_true rfl⟩ rfl rfl (Nat.le_of_ble_eq_true rfl) (C_X8_isGood) ?_
        refine mJ_put dX8_places_263 p_X8_69 rfl (Nat.le_of_ble_eq_true rfl) (m_nz (b2i_01 _)).1 (m_nz (b2i_01 _)).2 (h2 := mH _ _ _ _ _ _ _ _ _ _ _ _ _ _ _ _ _ _ _ _ _) rfl ?_
        refine mJ_iload dX8_places_266 rfl ?_
        refine mJ_aload_n dX8_places_268 rfl ?_
        refine mJ_get dX8_places_269 f_X8_66 rfl rfl ?_
        refine mJ_iadd dX8_places_272 ?_
        refine mJ_istore dX8_places_273 (Nat.le_of_ble_eq_true rfl) (ls2 := [_, _, _, _, _, _, _, _, _, _, _, _, _, _, _]) rfl ?_
        refine mJ_aload_n dX8_places_275 rfl ?_
        refine mJ_iload dX8_places_276 rfl ?_
        refine mJ_if_eq 286 dX8_places_278 rfl (fun _ => ?_) (fun c => absurd c (by decide))
        refine mJ_iload_n dX8_places_286 rfl ?_
        refine mJ_iconst (v := 1) dX8_places_287 rfl ?_
        refine mJ_icmp_ne 310 dX8_places_288 rfl (fun c => absurd c (by decide)) (fun _ => ?_)
        refine mJ_iload dX8_places_291 rfl ?_
        refine mJ_aload_n dX8_places_293 rfl ?_
        refine mJ_iload_n dX8_places_294 rfl ?_
        refine mJ_iconst (v := 2) dX8_places_295 rfl ?_
        refine mJ_cV2i dX8_places_296 e_X8_ofAnchor n_X8_40 ⟨Nat.le_of_ble_eq_true rfl, Nat.le_of_ble_eq_true rfl⟩ rfl rfl (Nat.le_of_ble_eq_true rfl) (C_X8_ofAnchor (w := 2) ha (by decide)) ?_
        refine mJ_iadd dX8_places_299 ?_
        refine mJ_aload_n dX8_places_300 rfl ?_
        refine mJ_get dX8_places_301 f_X8_7 rfl rfl ?_
        refine mJ_iconst (v := 4) dX8_places_304 rfl ?_
        refine mJ_ialdN dX8_places_305 rfl (j := 4) ⟨rfl, by decide, by decide⟩ ?_
        refine mJ_iadd dX8_places_306 ?_
        refine mJ_goto 322 dX8_places_307 rfl ?_
        refine mJ_put dX8_places_322 p_X8_73 rfl (Nat.le_of_ble_eq_true rfl) rfl rfl (h2 := mH _ _ _ _ _ _ _ _ _ _ _ _ _ _ _ _ _ _ _ _ _) rfl ?_
        refine mJ_aload_n dX8_places_325 rfl ?_
        refine mJ_iload dX8_places_326 rfl ?_
        refine mJ_if_ne 336 dX8_places_328 rfl (fun c => absurd c (by decide)) (fun _ => ?_)
        refine mJ_iload dX8_places_331 rfl ?_
        refine mJ_goto 372 dX8_places_333 rfl ?_
        refine mJ_put dX8_places_372 p_X8_76 rfl (Nat.le_of_ble_eq_true rfl) rfl rfl (h2 := mH _ _ _ _ _ _ _ _ _ _ _ _ _ _ _ _ _ _ _ _ _) rfl ?_
        exact mJ_vret dX8_places_375 rfl (rfl) (by have hp := p_an_of ha0 ha; simp_all [p_x, p_y, p_al, p_gd, p_ar, p_sh, p_a0, p_b0, p_ln, p_sz, p_bg, iif_lv0, iif_lv1, iif_lv2, iif_lv3, iif_bf0, iif_bf1, iif_bf2, iif_bf3])
    · refine mJ_iload dX8_places_135 rfl ?_
      refine mJ_iload dX8_places_137 rfl ?_
      refine mJ_iload dX8_places_139 rfl ?_
      refine mJ_isub dX8_places_141 ?_
      refine mJ_cS1i dX8_places_142 e_X8_half n_X8_55 ⟨Nat.le_of_ble_eq_true rfl, Nat.le_of_ble_eq_true rfl⟩ (Nat.le_of_ble_eq_true rfl) (C_X8_half) ?_
      refine mJ_iadd dX8_places_145 ?_
      refine mJ_goto 157 dX8_places_146 rfl ?_
      refine mJ_istore dX8_places_157 (Nat.le_of_ble_eq_true rfl) (ls2 := [_, _, _, _, _, _, _, _, _, _, _, _, _, _, _]) rfl ?_
      refine mJ_aload_n dX8_places_159 rfl ?_
      refine mJ_iload dX8_places_160 rfl ?_
      refine mJ_iload dX8_places_162 rfl ?_
      refine mJ_isub dX8_places_164 ?_
      refine mJ_put dX8_places_165 p_X8_59 rfl (Nat.le_of_ble_eq_true rfl) rfl rfl (h2 := mH _ _ _ _ _ _ _ _ _ _ _ _ _ _ _ _ _ _ _ _ _) rfl ?_
      refine mJ_aload_n dX8_places_168 rfl ?_
      refine mJ_aload_n dX8_places_169 rfl ?_
      refine mJ_iload_n dX8_places_170 rfl ?_
      refine mJ_bipush (v := 6) dX8_places_171 rfl ?_
      refine mJ_cV2i dX8_places_173 e_X8_ofHint n_X8_52 ⟨Nat.le_of_ble_eq_true rfl, Nat.le_of_ble_eq_true rfl⟩ rfl rfl (Nat.le_of_ble_eq_true rfl) (C_X8_ofHint (w := 6) hh (by decide)) ?_
      refine mJ_iconst (v := 1) dX8_places_176 rfl ?_
      refine mJ_icmp_ne 235 dX8_places_177 rfl (fun c_177 => ?_) (fun c_177 => ?_)
      · refine mJ_iconst (v := 0) dX8_places_235 rfl ?_
        refine mJ_put dX8_places_236 p_X8_66 rfl (Nat.le_of_ble_eq_true rfl) rfl rfl (h2 := mH _ _ _ _ _ _ _ _ _ _ _ _ _ _ _ _ _ _ _ _ _) rfl ?_
        refine mJ_aload_n dX8_places_239 rfl ?_
        refine mJ_dup dX8_places_240 rfl ?_
        refine mJ_get dX8_places_241 f_X8_59 rfl rfl ?_
        refine mJ_aload_n dX8_places_244 rfl ?_
        refine mJ_get dX8_places_245 f_X8_66 rfl rfl ?_
        refine mJ_isub dX8_places_248 ?_
        refine mJ_put dX8_places_249 p_X8_59 rfl (Nat.le_of_ble_eq_true rfl) rfl rfl (h2 := mH _ _ _ _ _ _ _ _ _ _ _ _ _ _ _ _ _ _ _ _ _) rfl ?_
        refine mJ_aload_n dX8_places_252 rfl ?_
        refine mJ_aload_n dX8_places_253 rfl ?_
        refine mJ_aload_n dX8_places_254 rfl ?_
        refine mJ_get dX8_places_255 f_X8_59 rfl rfl ?_
        refine mJ_iload dX8_places_258 rfl ?_
        refine mJ_cV2i dX8_places_260 e_X8_isGood n_X8_48 ⟨Nat.le_of_ble_eq_true rfl, Nat.le_of_ble_eq_true rfl⟩ rfl rfl (Nat.le_of_ble_eq_true rfl) (C_X8_isGood) ?_
        refine mJ_put dX8_places_263 p_X8_69 rfl (Nat.le_of_ble_eq_true rfl) (m_nz (b2i_01 _)).1 (m_nz (b2i_01 _)).2 (h2 := mH _ _ _ _ _ _ _ _ _ _ _ _ _ _ _ _ _ _ _ _ _) rfl ?_
        refine mJ_iload dX8_places_266 rfl ?_
        refine mJ_aload_n dX8_places_268 rfl ?_
        refine mJ_get dX8_places_269 f_X8_66 rfl rfl ?_
        refine mJ_iadd dX8_places_272 ?_
        refine mJ_istore dX8_places_273 (Nat.le_of_ble_eq_true rfl) (ls2 := [_, _, _, _, _, _, _, _, _, _, _, _, _, _, _]) rfl ?_
        refine mJ_aload_n dX8_places_275 rfl ?_
        refine mJ_iload dX8_places_276 rfl ?_
        refine mJ_if_eq 286 dX8_places_278 rfl (fun _ => ?_) (fun c => absurd c (by decide))
        refine mJ_iload_n dX8_places_286 rfl ?_
        refine mJ_iconst (v := 1) dX8_places_287 rfl ?_
        refine mJ_icmp_ne 310 dX8_places_288 rfl (fun c => absurd c (by decide)) (fun _ => ?_)
        refine mJ_iload dX8_places_291 rfl ?_
        refine mJ_aload_n dX8_places_293 rfl ?_
        refine mJ_iload_n dX8_places_294 rfl ?_
        refine mJ_iconst (v := 2) dX8_places_295 rfl ?_
        refine mJ_cV2i dX8_places_296 e_X8_ofAnchor n_X8_40 ⟨Nat.le_of_ble_eq_true rfl, Nat.le_of_ble_eq_true rfl⟩ rfl rfl (Nat.le_of_ble_eq_true rfl) (C_X8_ofAnchor (w := 2) ha (by decide)) ?_
        refine mJ_iadd dX8_places_299 ?_
        refine mJ_aload_n dX8_places_300 rfl ?_
        refine mJ_get dX8_places_301 f_X8_7 rfl rfl ?_
        refine mJ_iconst (v := 4) dX8_places_304 rfl ?_
        refine mJ_ialdN dX8_places_305 rfl (j := 4) ⟨rfl, by decide, by decide⟩ ?_
        refine mJ_iadd dX8_places_306 ?_
        refine mJ_goto 322 dX8_places_307 rfl ?_
        refine mJ_put dX8_places_322 p_X8_73 rfl (Nat.le_of_ble_eq_true rfl) rfl rfl (h2 := mH _ _ _ _ _ _ _ _ _ _ _ _ _ _ _ _ _ _ _ _ _) rfl ?_
        refine mJ_aload_n dX8_places_325 rfl ?_
        refine mJ_iload dX8_places_326 rfl ?_
        refine mJ_if_ne 336 dX8_places_328 rfl (fun c => absurd c (by decide)) (fun _ => ?_)
        refine mJ_iload dX8_places_331 rfl ?_
        refine mJ_goto 372 dX8_places_333 rfl ?_
        refine mJ_put dX8_places_372 p_X8_76 rfl (Nat.le_of_ble_eq_true rfl) rfl rfl (h2 := mH _ _ _ _ _ _ _ _ _ _ _ _ _ _ _ _ _ _ _ _ _) rfl ?_
        exact mJ_vret dX8_places_375 rfl (rfl) (by have hp := p_an_of ha0 ha; simp_all [p_x, p_y, p_al, p_gd, p_ar, p_sh, p_a0, p_b0, p_ln, p_sz, p_bg, iif_lv0, iif_lv1, iif_lv2, iif_lv3, iif_bf0, iif_bf1, iif_bf2, iif_bf3])
      · refine mJ_aload_n dX8_places_180 rfl ?_
        refine mJ_iload dX8_places_181 rfl ?_
        refine mJ_iload dX8_places_183 rfl ?_
        refine mJ_aload_n dX8_places_185 rfl ?_
        refine mJ_get dX8_places_186 f_X8_59 rfl rfl ?_
        refine mJ_iload dX8_places_189 rfl ?_
        refine mJ_if_eq 203 dX8_places_191 rfl (fun _ => ?_) (fun c => absurd c (by decide))
        refine mJ_aload_n dX8_places_203 rfl ?_
        refine mJ_get dX8_places_204 f_X8_7 rfl rfl ?_
        refine mJ_iconst (v := 1) dX8_places_207 rfl ?_
        refine mJ_ialdN dX8_places_208 rfl (j := 1) ⟨rfl, by decide, by decide⟩ ?_
        refine mJ_iload dX8_places_209 rfl ?_
        refine mJ_if_eq 223 dX8_places_211 rfl (fun _ => ?_) (fun c => absurd c (by decide))
        refine mJ_aload_n dX8_places_223 rfl ?_
        refine mJ_get dX8_places_224 f_X8_7 rfl rfl ?_
        refine mJ_iconst (v := 3) dX8_places_227 rfl ?_
        refine mJ_ialdN dX8_places_228 rfl (j := 3) ⟨rfl, by decide, by decide⟩ ?_
        refine mJ_cV5i dX8_places_229 e_X8_shift n_X8_62 ⟨Nat.le_of_ble_eq_true rfl, Nat.le_of_ble_eq_true rfl⟩ rfl rfl (Nat.le_of_ble_eq_true rfl) (C_X8_shift) ?_
        refine mJ_goto 236 dX8_places_232 rfl ?_
        refine mJ_put dX8_places_236 p_X8_66 rfl (Nat.le_of_ble_eq_true rfl) rfl rfl (h2 := mH _ _ _ _ _ _ _ _ _ _ _ _ _ _ _ _ _ _ _ _ _) rfl ?_
        refine mJ_aload_n dX8_places_239 rfl ?_
        refine mJ_dup dX8_places_240 rfl ?_
        refine mJ_get dX8_places_241 f_X8_59 rfl rfl ?_
        refine mJ_aload_n dX8_places_244 rfl ?_
        refine mJ_get dX8_places_245 f_X8_66 rfl rfl ?_
        refine mJ_isub dX8_places_248 ?_
        refine mJ_put dX8_places_249 p_X8_59 rfl (Nat.le_of_ble_eq_true rfl) rfl rfl (h2 := mH _ _ _ _ _ _ _ _ _ _ _ _ _ _ _ _ _ _ _ _ _) rfl ?_
        refine mJ_aload_n dX8_places_252 rfl ?_
        refine mJ_aload_n dX8_places_253 rfl ?_
        refine mJ_aload_n dX8_places_254 rfl ?_
        refine mJ_get dX8_places_255 f_X8_59 rfl rfl ?_
        refine mJ_iload dX8_places_258 rfl ?_
        refine mJ_cV2i dX8_places_260 e_X8_isGood n_X8_48 ⟨Nat.le_of_ble_eq_true rfl, Nat.le_of_ble_eq_true rfl⟩ rfl rfl (Nat.le_of_ble_eq_true rfl) (C_X8_isGood) ?_
        refine mJ_put dX8_places_263 p_X8_69 rfl (Nat.le_of_ble_eq_true rfl) (m_nz (b2i_01 _)).1 (m_nz (b2i_01 _)).2 (h2 := mH _ _ _ _ _ _ _ _ _ _ _ _ _ _ _ _ _ _ _ _ _) rfl ?_
        refine mJ_iload dX8_places_266 rfl ?_
        refine mJ_aload_n dX8_places_268 rfl ?_
        refine mJ_get dX8_places_269 f_X8_66 rfl rfl ?_
        refine mJ_iadd dX8_places_272 ?_
        refine mJ_istore dX8_places_273 (Nat.le_of_ble_eq_true rfl) (ls2 := [_, _, _, _, _, _, _, _, _, _, _, _, _, _, _]) rfl ?_
        refine mJ_aload_n dX8_places_275 rfl ?_
        refine mJ_iload dX8_places_276 rfl ?_
        refine mJ_if_eq 286 dX8_places_278 rfl (fun _ => ?_) (fun c => absurd c (by decide))
        refine mJ_iload_n dX8_places_286 rfl ?_
        refine mJ_iconst (v := 1) dX8_places_287 rfl ?_
        refine mJ_icmp_ne 310 dX8_places_288 rfl (fun c => absurd c (by decide)) (fun _ => ?_)
        refine mJ_iload dX8_places_291 rfl ?_
        refine mJ_aload_n dX8_places_293 rfl ?_
        refine mJ_iload_n dX8_places_294 rfl ?_
        refine mJ_iconst (v := 2) dX8_places_295 rfl ?_
        refine mJ_cV2i dX8_places_296 e_X8_ofAnchor n_X8_40 ⟨Nat.le_of_ble_eq_true rfl, Nat.le_of_ble_eq_true rfl⟩ rfl rfl (Nat.le_of_ble_eq_true rfl) (C_X8_ofAnchor (w := 2) ha (by decide)) ?_
        refine mJ_iadd dX8_places_299 ?_
        refine mJ_aload_n dX8_places_300 rfl ?_
        refine mJ_get dX8_places_301 f_X8_7 rfl rfl ?_
        refine mJ_iconst (v := 4) dX8_places_304 rfl ?_
        refine mJ_ialdN dX8_places_305 rfl (j := 4) ⟨rfl, by decide, by decide⟩ ?_
        refine mJ_iadd dX8_places_306 ?_
        refine mJ_goto 322 dX8_places_307 rfl ?_
        refine mJ_put dX8_places_322 p_X8_73 rfl (Nat.le_of_ble_eq_true rfl) rfl rfl (h2 := mH _ _ _ _ _ _ _ _ _ _ _ _ _ _ _ _ _ _ _ _ _) rfl ?_
        refine mJ_aload_n dX8_places_325 rfl ?_
        refine mJ_iload dX8_places_326 rfl ?_
        refine mJ_if_ne 336 dX8_places_328 rfl (fun c => absurd c (by decide)) (fun _ => ?_)
        refine mJ_iload dX8_places_331 rfl ?_
        refine mJ_goto 372 dX8_places_333 rfl ?_
        refine mJ_put dX8_places_372 p_X8_76 rfl (Nat.le_of_ble_eq_true rfl) rfl rfl (h2 := mH _ _ _ _ _ _ _ _ _ _ _ _ _ _ _ _ _ _ _ _ _) rfl ?_
        exact mJ_vret dX8_places_375 rfl (rfl) (by have hp := p_an_of ha0 ha; simp_all [p_x, p_y, p_al, p_gd, p_ar, p_sh, p_a0, p_b0, p_ln, p_sz, p_bg, iif_lv0, iif_lv1, iif_lv2, iif_lv3, iif_bf0, iif_bf1, iif_bf2, iif_bf3])
  · refine mJ_iload dX8_places_124 rfl ?_
    refine mJ_goto 157 dX8_places_126 rfl ?_
    refine mJ_istore dX8_places_157 (Nat.le_of_ble_eq_true rfl) (ls2 := [_, _, _, _, _, _, _, _, _, _, _, _, _, _, _]) rfl ?_
    refine mJ_aload_n dX8_places_159 rfl ?_
    refine mJ_iload dX8_places_160 rfl ?_
    refine mJ_iload dX8_places_162 rfl ?_
    refine mJ_isub dX8_places_164 ?_
    refine mJ_put dX8_places_165 p_X8_59 rfl (Nat.le_of_ble_eq_true rfl) rfl rfl (h2 := mH _ _ _ _ _ _ _ _ _ _ _ _ _ _ _ _ _ _ _ _ _) rfl ?_
    refine mJ_aload_n dX8_places_168 rfl ?_
    refine mJ_aload_n dX8_places_169 rfl ?_
    refine mJ_iload_n dX8_places_170 rfl ?_
    refine mJ_bipush (v := 6) dX8_places_171 rfl ?_
    refine mJ_cV2i dX8_places_173 e_X8_ofHint n_X8_52 ⟨Nat.le_of_ble_eq_true rfl, Nat.le_of_ble_eq_true rfl⟩ rfl rfl (Nat.le_of_ble_eq_true rfl) (C_X8_ofHint (w := 6) hh (by decide)) ?_
    refine mJ_iconst (v := 1) dX8_places_176 rfl ?_
    refine mJ_icmp_ne 235 dX8_places_177 rfl (fun c_177 => ?_) (fun c_177 => ?_)
    · refine mJ_iconst (v := 0) dX8_places_235 rfl ?_
      refine mJ_put dX8_places_236 p_X8_66 rfl (Nat.le_of_ble_eq_true rfl) rfl rfl (h2 := mH _ _ _ _ _ _ _ _ _ _ _ _ _ _ _ _ _ _ _ _ _) rfl ?_
      refine mJ_aload_n dX8_places_239 rfl ?_
      refine mJ_dup dX8_places_240 rfl ?_
      refine mJ_get dX8_places_241 f_X8_59 rfl rfl ?_
      refine mJ_aload_n dX8_places_244 rfl ?_
      refine mJ_get dX8_places_245 f_X8_66 rfl rfl ?_
      refine mJ_isub dX8_places_248 ?_
      refine mJ_put dX8_places_249 p_X8_59 rfl (Nat.le_of_ble_eq_true rfl) rfl rfl (h2 := mH _ _ _ _ _ _ _ _ _ _ _ _ _ _ _ _ _ _ _ _ _) rfl ?_
      refine mJ_aload_n dX8_places_252 rfl ?_
      refine mJ_aload_n dX8_places_253 rfl ?_
      refine mJ_aload_n dX8_places_254 rfl ?_
      refine mJ_get dX8_places_255 f_X8_59 rfl rfl ?_
      refine mJ_iload dX8_places_258 rfl ?_
      refine mJ_cV2i dX8_places_260 e_X8_isGood n_X8_48 ⟨Nat.le_of_ble_eq_true rfl, Nat.le_of_ble_eq_true rfl⟩ rfl rfl (Nat.le_of_ble_eq_true rfl) (C_X8_isGood) ?_
      refine mJ_put dX8_places_263 p_X8_69 rfl (Nat.le_of_ble_eq_true rfl) (m_nz (b2i_01 _)).1 (m_nz (b2i_01 _)).2 (h2 := mH _ _ _ _ _ _ _ _ _ _ _ _ _ _ _ _ _ _ _ _ _) rfl ?_
      refine mJ_iload dX8_places_266 rfl ?_
      refine mJ_aload_n dX8_places_268 rfl ?_
      refine mJ_get dX8_places_269 f_X8_66 rfl rfl ?_
      refine mJ_iadd dX8_places_272 ?_
      refine mJ_istore dX8_places_273 (Nat.le_of_ble_eq_true rfl) (ls2 := [_, _, _, _, _, _, _, _, _, _, _, _, _, _, _]) rfl ?_
      refine mJ_aload_n dX8_places_275 rfl ?_
      refine mJ_iload dX8_places_276 rfl ?_
      refine mJ_if_eq 286 dX8_places_278 rfl (fun _ => ?_) (fun c => absurd c (by decide))
      refine mJ_iload_n dX8_places_286 rfl ?_
      refine mJ_iconst (v := 1) dX8_places_287 rfl ?_
      refine mJ_icmp_ne 310 dX8_places_288 rfl (fun c => absurd c (by decide)) (fun _ => ?_)
      refine mJ_iload dX8_places_291 rfl ?_
      refine mJ_aload_n dX8_places_293 rfl ?_
      refine mJ_iload_n dX8_places_294 rfl ?_
      refine mJ_iconst (v := 2) dX8_places_295 rfl ?_
      refine mJ_cV2i dX8_places_296 e_X8_ofAnchor n_X8_40 ⟨Nat.le_of_ble_eq_true rfl, Nat.le_of_ble_eq_true rfl⟩ rfl rfl (Nat.le_of_ble_eq_true rfl) (C_X8_ofAnchor (w := 2) ha (by decide)) ?_
      refine mJ_iadd dX8_places_299 ?_
      refine mJ_aload_n dX8_places_300 rfl ?_
      refine mJ_get dX8_places_301 f_X8_7 rfl rfl ?_
      refine mJ_iconst (v := 4) dX8_places_304 rfl ?_
      refine mJ_ialdN dX8_places_305 rfl (j := 4) ⟨rfl, by decide, by decide⟩ ?_
      refine mJ_iadd dX8_places_306 ?_
      refine mJ_goto 322 dX8_places_307 rfl ?_
      refine mJ_put dX8_places_322 p_X8_73 rfl (Nat.le_of_ble_eq_true rfl) rfl rfl (h2 := mH _ _ _ _ _ _ _ _ _ _ _ _ _ _ _ _ _ _ _ _ _) rfl ?_
      refine mJ_aload_n dX8_places_325 rfl ?_
      refine mJ_iload dX8_places_326 rfl ?_
      refine mJ_if_ne 336 dX8_places_328 rfl (fun c => absurd c (by decide)) (fun _ => ?_)
      refine mJ_iload dX8_places_331 rfl ?_
      refine mJ_goto 372 dX8_places_333 rfl ?_
      refine mJ_put dX8_places_372 p_X8_76 rfl (Nat.le_of_ble_eq_true rfl) rfl rfl (h2 := mH _ _ _ _ _ _ _ _ _ _ _ _ _ _ _ _ _ _ _ _ _) rfl ?_
      exact mJ_vret dX8_places_375 rfl (rfl) (by have hp := p_an_of ha0 ha; simp_all [p_x, p_y, p_al, p_gd, p_ar, p_sh, p_a0, p_b0, p_ln, p_sz, p_bg, iif_lv0, iif_lv1, iif_lv2, iif_lv3, iif_bf0, iif_bf1, iif_bf2, iif_bf3])
    · refine mJ_aload_n dX8_places_180 rfl ?_
      refine mJ_iload dX8_places_181 rfl ?_
      refine mJ_iload dX8_places_183 rfl ?_
      refine mJ_aload_n dX8_places_185 rfl ?_
      refine mJ_get dX8_places_186 f_X8_59 rfl rfl ?_
      refine mJ_iload dX8_places_189 rfl ?_
      refine mJ_if_eq 203 dX8_places_191 rfl (fun _ => ?_) (fun c => absurd c (by decide))
      refine mJ_aload_n dX8_places_203 rfl ?_
      refine mJ_get dX8_places_204 f_X8_7 rfl rfl ?_
      refine mJ_iconst (v := 1) dX8_places_207 rfl ?_
      refine mJ_ialdN dX8_places_208 rfl (j := 1) ⟨rfl, by decide, by decide⟩ ?_
      refine mJ_iload dX8_places_209 rfl ?_
      refine mJ_if_eq 223 dX8_places_211 rfl (fun _ => ?_) (fun c => absurd c (by decide))
      refine mJ_aload_n dX8_places_223 rfl ?_
      refine mJ_get dX8_places_224 f_X8_7 rfl rfl ?_
      refine mJ_iconst (v := 3) dX8_places_227 rfl ?_
      refine mJ_ialdN dX8_places_228 rfl (j := 3) ⟨rfl, by decide, by decide⟩ ?_
      refine mJ_cV5i dX8_places_229 e_X8_shift n_X8_62 ⟨Nat.le_of_ble_eq_true rfl, Nat.le_of_ble_eq_true rfl⟩ rfl rfl (Nat.le_of_ble_eq_true rfl) (C_X8_shift) ?_
      refine mJ_goto 236 dX8_places_232 rfl ?_
      refine mJ_put dX8_places_236 p_X8_66 rfl (Nat.le_of_ble_eq_true rfl) rfl rfl (h2 := mH _ _ _ _ _ _ _ _ _ _ _ _ _ _ _ _ _ _ _ _ _) rfl ?_
      refine mJ_aload_n dX8_places_239 rfl ?_
      refine mJ_dup dX8_places_240 rfl ?_
      refine mJ_get dX8_places_241 f_X8_59 rfl rfl ?_
      refine mJ_aload_n dX8_places_244 rfl ?_
      refine mJ_get dX8_places_245 f_X8_66 rfl rfl ?_
      refine mJ_isub dX8_places_248 ?_
      refine mJ_put dX8_places_249 p_X8_59 rfl (Nat.le_of_ble_eq_true rfl) rfl rfl (h2 := mH _ _ _ _ _ _ _ _ _ _ _ _ _ _ _ _ _ _ _ _ _) rfl ?_
      refine mJ_aload_n dX8_places_252 rfl ?_
      refine mJ_aload_n dX8_places_253 rfl ?_
      refine mJ_aload_n dX8_places_254 rfl ?_
      refine mJ_get dX8_places_255 f_X8_59 rfl rfl ?_
      refine mJ_iload dX8_places_258 rfl ?_
      refine mJ_cV2i dX8_places_260 e_X8_isGood n_X8_48 ⟨Nat.le_of_ble_eq_true rfl, Nat.le_of_ble_eq_true rfl⟩ rfl rfl (Nat.le_of_ble_eq_true rfl) (C_X8_isGood) ?_
      refine mJ_put dX8_places_263 p_X8_69 rfl (Nat.le_of_ble_eq_true rfl) (m_nz (b2i_01 _)).1 (m_nz (b2i_01 _)).2 (h2 := mH _ _ _ _ _ _ _ _ _ _ _ _ _ _ _ _ _ _ _ _ _) rfl ?_
      refine mJ_iload dX8_places_266 rfl ?_
      refine mJ_aload_n dX8_places_268 rfl ?_
      refine mJ_get dX8_places_269 f_X8_66 rfl rfl ?_
      refine mJ_iadd dX8_places_272 ?_
      refine mJ_istore dX8_places_273 (Nat.le_of_ble_eq_true rfl) (ls2 := [_, _, _, _, _, _, _, _, _, _, _, _, _, _, _]) rfl ?_
      refine mJ_aload_n dX8_places_275 rfl ?_
      refine mJ_iload dX8_places_276 rfl ?_
      refine mJ_if_eq 286 dX8_places_278 rfl (fun _ => ?_) (fun c => absurd c (by decide))
      refine mJ_iload_n dX8_places_286 rfl ?_
      refine mJ_iconst (v := 1) dX8_places_287 rfl ?_
      refine mJ_icmp_ne 310 dX8_places_288 rfl (fun c => absurd c (by decide)) (fun _ => ?_)
      refine mJ_iload dX8_places_291 rfl ?_
      refine mJ_aload_n dX8_places_293 rfl ?_
      refine mJ_iload_n dX8_places_294 rfl ?_
      refine mJ_iconst (v := 2) dX8_places_295 rfl ?_
      refine mJ_cV2i dX8_places_296 e_X8_ofAnchor n_X8_40 ⟨Nat.le_of_ble_eq_true rfl, Nat.le_of_ble_eq_true rfl⟩ rfl rfl (Nat.le_of_ble_eq_true rfl) (C_X8_ofAnchor (w := 2) ha (by decide)) ?_
      refine mJ_iadd dX8_places_299 ?_
      refine mJ_aload_n dX8_places_300 rfl ?_
      refine mJ_get dX8_places_301 f_X8_7 rfl rfl ?_
      refine mJ_iconst (v := 4) dX8_places_304 rfl ?_
      refine mJ_ialdN dX8_places_305 rfl (j := 4) ⟨rfl, by decide, by decide⟩ ?_
      refine mJ_iadd dX8_places_306 ?_
      refine mJ_goto 322 dX8_places_307 rfl ?_
      refine mJ_put dX8_places_322 p_X8_73 rfl (Nat.le_of_ble_eq_true rfl) rfl rfl (h2 := mH _ _ _ _ _ _ _ _ _ _ _ _ _ _ _ _ _ _ _ _ _) rfl ?_
      refine mJ_aload_n dX8_places_325 rfl ?_
      refine mJ_iload dX8_places_326 rfl ?_
      refine mJ_if_ne 336 dX8_places_328 rfl (fun c => absurd c (by decide)) (fun _ => ?_)
      refine mJ_iload dX8_places_331 rfl ?_
      refine mJ_goto 372 dX8_places_333 rfl ?_
      refine mJ_put dX8_places_372 p_X8_76 rfl (Nat.le_of_ble_eq_true rfl) rfl rfl (h2 := mH _ _ _ _ _ _ _ _ _ _ _ _ _ _ _ _ _ _ _ _ _) rfl ?_
      exact mJ_vret dX8_places_375 rfl (rfl) (by have hp := p_an_of ha0 ha; simp_all [p_x, p_y, p_al, p_gd, p_ar, p_sh, p_a0, p_b0, p_ln, p_sz, p_bg, iif_lv0, iif_lv1, iif_lv2, iif_lv3, iif_bf0, iif_bf1, iif_bf2, iif_bf3])
set_option maxHeartbeats 4000000 in
set_option maxRecDepth 100000 in
theorem C_X8_places_2 {d was text ord why son tri : aF} {sta typ at_ sig fst snd rea lef top shf arr goo shn trs : Int32} {h a : Nat} (hh : h < 12) (ha0 : dH d h 0 = nI a) (ha : a < 10) : mCt k_X8_places [.ref 0, .int (nI h), .int 2] (mH d was sta text typ at_ sig fst snd rea lef top shf arr goo ord why son shn tri trs) none (mH d was sta text typ at_ sig fst snd rea (p_x d h 2) (p_y d h 2) (p_sh d h 2) (p_ar d h 2) (b2i (p_gd d h 2)) ord why son shn tri trs) := by
  refine mCt_intro (plainFor_of_name rfl) (Nat.le_of_ble_eq_true rfl) (m_all rfl) (ls := [_, _, _, _, _, _, _, _, _, _, _, _, _, _, _]) rfl ?_
  refine mJ_aload_n dX8_places_0 rfl ?_
  refine mJ_iload_n dX8_places_1 rfl ?_
  refine mJ_iconst (v := 0) dX8_places_2 rfl ?_
  refine mJ_cV2i dX8_places_3 e_X8_ofHint n_X8_52 ⟨Nat.le_of_ble_eq_true rfl, Nat.le_of_ble_eq_true rfl⟩ rfl rfl (Nat.le_of_ble_eq_true rfl) (C_X8_ofHint (w := 0) hh (by decide)) ?_
  refine mJ_top ha0 ?_
  refine mJ_istore_n dX8_places_6 (Nat.le_of_ble_eq_true rfl) (ls2 := [_, _, _, _, _, _, _, _, _, _, _, _, _, _, _]) rfl ?_
  refine mJ_iload_n dX8_places_7 rfl ?_
  refine mJ_iconst (v := 2) dX8_places_8 rfl ?_
  refine mJ_irem dX8_places_9 (by decide) ?_
  refine mJ_top (show (2 : Int32) - 2 / 2 * 2 = 0 by decide) ?_
  refine mJ_if_ne 17 dX8_places_10 rfl (fun c => absurd c (by decide)) (fun _ => ?_)
  refine mJ_iconst (v := 1) dX8_places_13 rfl ?_
  refine mJ_goto 18 dX8_places_14 rfl ?_
  refine mJ_istore dX8_places_18 (Nat.le_of_ble_eq_true rfl) (ls2 := [_, _, _, _, _, _, _, _, _, _, _, _, _, _, _]) rfl ?_
  refine mJ_aload_n dX8_places_20 rfl ?_
  refine mJ_iload_n dX8_places_21 rfl ?_
  refine mJ_iconst (v := 0) dX8_places_22 rfl ?_
  refine mJ_cV2i dX8_places_23 e_X8_ofAnchor n_X8_40 ⟨Nat.le_of_ble_eq_true rfl, Nat.le_of_ble_eq_true rfl⟩ rfl rfl (Nat.le_of_ble_eq_true rfl) (C_X8_ofAnchor (w := 0) ha (by decide)) ?_
  refine mJ_istore dX8_places_26 (Nat.le_of_ble_eq_true rfl) (ls2 := [_, _, _, _, _, _, _, _, _, _, _, _, _, _, _]) rfl ?_
  refine mJ_aload_n dX8_places_28 rfl ?_
  refine mJ_iload_n dX8_places_29 rfl ?_
  refine mJ_iconst (v := 1) dX8_places_30 rfl ?_
  refine mJ_cV2i dX8_places_31 e_X8_ofAnchor n_X8_40 ⟨Nat.le_of_ble_eq_true rfl, Nat.le_of_ble_eq_true rfl⟩ rfl rfl (Nat.le_of_ble_eq_true rfl) (C_X8_ofAnchor (w := 1) ha (by decide)) ?_
  refine mJ_istore dX8_places_34 (Nat.le_of_ble_eq_true rfl) (ls2 := [_, _, _, _, _, _, _, _, _, _, _, _, _, _, _]) rfl ?_
  refine mJ_aload_n dX8_places_36 rfl ?_
  refine mJ_iload_n dX8_places_37 rfl ?_
  refine mJ_iconst (v := 1) dX8_places_38 rfl ?_
  refine mJ_cV2i dX8_places_39 e_X8_ofHint n_X8_52 ⟨Nat.le_of_ble_eq_true rfl, Nat.le_of_ble_eq_true rfl⟩ rfl rfl (Nat.le_of_ble_eq_true rfl) (C_X8_ofHint (w := 1) hh (by decide)) ?_
  refine mJ_istore dX8_places_42 (Nat.le_of_ble_eq_true rfl) (ls2 := [_, _, _, _, _, _, _, _, _, _, _, _, _, _, _]) rfl ?_
  refine mJ_aload_n dX8_places_44 rfl ?_
  refine mJ_iload_n dX8_places_45 rfl ?_
  refine mJ_iconst (v := 2) dX8_places_46 rfl ?_
  refine mJ_cV2i dX8_places_47 e_X8_ofHint n_X8_52 ⟨Nat.le_of_ble_eq_true rfl, Nat.le_of_ble_eq_true rfl⟩ rfl rfl (Nat.le_of_ble_eq_true rfl) (C_X8_ofHint (w := 2) hh (by decide)) ?_
  refine mJ_istore dX8_places_50 (Nat.le_of_ble_eq_true rfl) (ls2 := [_, _, _, _, _, _, _, _, _, _, _, _, _, _, _]) rfl ?_
  refine mJ_iload dX8_places_52 rfl ?_
  refine mJ_if_eq 62 dX8_places_54 rfl (fun c => absurd c (by decide)) (fun _ => ?_)
  refine mJ_iload dX8_places_57 rfl ?_
  refine mJ_goto 64 dX8_places_59 rfl ?_
  refine mJ_istore dX8_places_64 (Nat.le_of_ble_eq_true rfl) (ls2 := [_, _, _, _, _, _, _, _, _, _, _, _, _, _, _]) rfl ?_
  refine mJ_iload dX8_places_66 rfl ?_
  refine mJ_if_eq 80 dX8_places_68 rfl (fun c => absurd c (by decide)) (fun _ => ?_)
  refine mJ_aload_n dX8_places_71 rfl ?_
  refine mJ_iload_n dX8_places_72 rfl ?_
  refine mJ_iconst (v := 2) dX8_places_73 rfl ?_
  refine mJ_cV2i dX8_places_74 e_X8_ofAnchor n_X8_40 ⟨Nat.le_of_ble_eq_true rfl, Nat.le_of_ble_eq_true rfl⟩ rfl rfl (Nat.le_of_ble_eq_true rfl) (C_X8_ofAnchor (w := 2) ha (by decide)) ?_
  refine mJ_goto 86 dX8_places_77 rfl ?_
  refine mJ_istore dX8_places_86 (Nat.le_of_ble_eq_true rfl) (ls2 := [_, _, _, _, _, _, _, _, _, _, _, _, _, _, _]) rfl ?_
  refine mJ_iload dX8_places_88 rfl ?_
  refine mJ_if_eq 98 dX8_places_90 rfl (fun c => absurd c (by decide)) (fun _ => ?_)
  refine mJ_iload dX8_places_93 rfl ?_
  refine mJ_goto 100 dX8_places_95 rfl ?_
  refine mJ_istore dX8_places_100 (Nat.le_of_ble_eq_true rfl) (ls2 := [_, _, _, _, _, _, _, _, _, _, _, _, _, _, _]) rfl ?_
  refine mJ_aload_n dX8_places_102 rfl ?_
  refine mJ_iload_n dX8_places_103 rfl ?_
  refine mJ_iconst (v := 4) dX8_places_104 rfl ?_
  refine mJ_cV2i dX8_places_105 e_X8_ofHint n_X8_52 ⟨Nat.le_of_ble_eq_true rfl, Nat.le_of_ble_eq_true rfl⟩ rfl rfl (Nat.le_of_ble_eq_true rfl) (C_X8_ofHint (w := 4) hh (by decide)) ?_
  refine mJ_istore dX8_places_108 (Nat.le_of_ble_eq_true rfl) (ls2 := [_, _, _, _, _, _, _, _, _, _, _, _, _, _, _]) rfl ?_
  refine mJ_iload dX8_places_110 rfl ?_
  refine mJ_iload dX8_places_112 rfl ?_
  refine mJ_iconst (v := 2) dX8_places_114 rfl ?_
  refine mJ_idiv dX8_places_115 (by decide) ?_
  refine mJ_iadd dX8_places_116 ?_
  refine mJ_istore dX8_places_117 (Nat.le_of_ble_eq_true rfl) (ls2 := [_, _, _, _, _, _, _, _, _, _, _, _, _, _, _]) rfl ?_
  refine mJ_iload dX8_places_119 rfl ?_
  refine mJ_if_ne 129 dX8_places_121 rfl (fun c_121 => ?_) (fun c_121 => ?_)
  · refine mJ_iload dX8_places_129 rfl ?_
    refine mJ_iconst (v := 1) dX8_places_131 rfl ?_
    refine mJ_icmp_ne 149 dX8_places_132 rfl (fun c_132 => ?_) (fun c_132 => ?_)
    · refine mJ_iload dX8_places_149 rfl ?_
      refine mJ_iload dX8_places_151 rfl ?_
      refine mJ_iadd dX8_places_153 ?_
      refine mJ_iload dX8_places_154 rfl ?_
      refine mJ_isub dX8_places_156 ?_
      refine mJ_istore dX8_places_157 (Nat.le_of_ble_eq_true rfl) (ls2 := [_, _, _, _, _, _, _, _, _, _, _, _, _, _, _]) rfl ?_
      refine mJ_aload_n dX8_places_159 rfl ?_
      refine mJ_iload dX8_places_160 rfl ?_
      refine mJ_iload dX8_places_162 rfl ?_
      refine mJ_isub dX8_places_164 ?_
      refine mJ_put dX8_places_165 p_X8_59 rfl (Nat.le_of_ble_eq_true rfl) rfl rfl (h2 := mH _ _ _ _ _ _ _ _ _ _ _ _ _ _ _ _ _ _ _ _ _) rfl ?_
      refine mJ_aload_n dX8_places_168 rfl ?_
      refine mJ_aload_n dX8_places_169 rfl ?_
      refine mJ_iload_n dX8_places_170 rfl ?_
      refine mJ_bipush (v := 6) dX8_places_171 rfl ?_
      refine mJ_cV2i dX8_places_173 e_X8_ofHint n_X8_52 ⟨Nat.le_of_ble_eq_true rfl, Nat.le_of_ble_eq_true rfl⟩ rfl rfl (Nat.le_of_ble_eq_true rfl) (C_X8_ofHint (w := 6) hh (by decide)) ?_
      refine mJ_iconst (v := 1) dX8_places_176 rfl ?_
      refine mJ_icmp_ne 235 dX8_places_177 rfl (fun c_177 => ?_) (fun c_177 => ?_)
      · refine mJ_iconst (v := 0) dX8_places_235 rfl ?_
        refine mJ_put dX8_places_236 p_X8_66 rfl (Nat.le_of_ble_eq_true rfl) rfl rfl (h2 := mH _ _ _ _ _ _ _ _ _ _ _ _ _ _ _ _ _ _ _ _ _) rfl ?_
        refine mJ_aload_n dX8_places_239 rfl ?_
        refine mJ_dup dX8_places_240 rfl ?_
        refine mJ_get dX8_places_241 f_X8_59 rfl rfl ?_
        refine mJ_aload_n dX8_places_244 rfl ?_
        refine mJ_get dX8_places_245 f_X8_66 rfl rfl ?_
        refine mJ_isub dX8_places_248 ?_
        refine mJ_put dX8_places_249 p_X8_59 rfl (Nat.le_of_ble_eq_true rfl) rfl rfl (h2 := mH _ _ _ _ _ _ _ _ _ _ _ _ _ _ _ _ _ _ _ _ _) rfl ?_
        refine mJ_aload_n dX8_places_252 rfl ?_
        refine mJ_aload_n dX8_places_253 rfl ?_
        refine mJ_aload_n dX8_places_254 rfl ?_
        refine mJ_get dX8_places_255 f_X8_59 rfl rfl ?_
        refine mJ_iload dX8_places_258 rfl ?_
        refine mJ_cV2i dX8_places_260 e_X8_isGood n_X8_48 ⟨Nat.le_of_ble_eq_true rfl, Nat.le_of_ble_eq_true rfl⟩ rfl rfl (Nat.le_of_ble_eq_true rfl) (C_X8_isGood) ?_
        refine mJ_put dX8_places_263 p_X8_69 rfl (Nat.le_of_ble_eq_true rfl) (m_nz (b2i_01 _)).1 (m_nz (b2i_01 _)).2 (h2 := mH _ _ _ _ _ _ _ _ _ _ _ _ _ _ _ _ _ _ _ _ _) rfl ?_
        refine mJ_iload dX8_places_266 rfl ?_
        refine mJ_aload_n dX8_places_268 rfl ?_
        refine mJ_get dX8_places_269 f_X8_66 rfl rfl ?_
        refine mJ_iadd dX8_places_272 ?_
        refine mJ_istore dX8_places_273 (Nat.le_of_ble_eq_true rfl) (ls2 := [_, _, _, _, _, _, _, _, _, _, _, _, _, _, _]) rfl ?_
        refine mJ_aload_n dX8_places_275 rfl ?_
        refine mJ_iload dX8_places_276 rfl ?_
        refine mJ_if_eq 286 dX8_places_278 rfl (fun c => absurd c (by decide)) (fun _ => ?_)
        refine mJ_iload dX8_places_281 rfl ?_
        refine mJ_goto 322 dX8_places_283 rfl ?_
        refine mJ_put dX8_places_322 p_X8_73 rfl (Nat.le_of_ble_eq_true rfl) rfl rfl (h2 := mH _ _ _ _ _ _ _ _ _ _ _ _ _ _ _ _ _ _ _ _ _) rfl ?_
        refine mJ_aload_n dX8_places_325 rfl ?_
        refine mJ_iload dX8_places_326 rfl ?_
        refine mJ_if_ne 336 dX8_places_328 rfl (fun _ => ?_) (fun c => absurd c (by decide))
        refine mJ_iload_n dX8_places_336 rfl ?_
        refine mJ_iconst (v := 2) dX8_places_337 rfl ?_
        refine mJ_icmp_ne 360 dX8_places_338 rfl (fun c => absurd c (by decide)) (fun _ => ?_)
        refine mJ_iload dX8_places_341 rfl ?_
        refine mJ_aload_n dX8_places_343 rfl ?_
        refine mJ_iload_n dX8_places_344 rfl ?_
        refine mJ_iconst (v := 3) dX8_places_345 rfl ?_
        refine mJ_cV2i dX8_places_346 e_X8_ofAnchor n_X8_40 ⟨Nat.le_of_ble_eq_true rfl, Nat.le_of_ble_eq_true rfl⟩ rfl rfl (Nat.le_of_ble_eq_true rfl) (C_X8_ofAnchor (w := 3) ha (by decide)) ?_
        refine mJ_iadd dX8_places_349 ?_
        refine mJ_aload_n dX8_places_350 rfl ?_
        refine mJ_get dX8_places_351 f_X8_7 rfl rfl ?_
        refine mJ_iconst (v := 4) dX8_places_354 rfl ?_
        refine mJ_ialdN dX8_places_355 rfl (j := 4) ⟨rfl, by decide, by decide⟩ ?_
        refine mJ_iadd dX8_places_356 ?_
        refine mJ_goto 372 dX8_places_357 rfl ?_
        refine mJ_put dX8_places_372 p_X8_76 rfl (Nat.le_of_ble_eq_true rfl) rfl rfl (h2 := mH _ _ _ _ _ _ _ _ _ _ _ _ _ _ _ _ _ _ _ _ _) rfl ?_
        exact mJ_vret dX8_places_375 rfl (rfl) (by have hp := p_an_of ha0 ha; simp_all [p_x, p_y, p_al, p_gd, p_ar, p_sh, p_a0, p_b0, p_ln, p_sz, p_bg, iif_lv0, iif_lv1, iif_lv2, iif_lv3, iif_bf0, iif_bf1, iif_bf2, iif_bf3])
      · refine mJ_aload_n dX8_places_180 rfl ?_
        refine mJ_iload dX8_places_181 rfl ?_
        refine mJ_iload dX8_places_183 rfl ?_
        refine mJ_aload_n dX8_places_185 rfl ?_
        refine mJ_get dX8_places_186 f_X8_59 rfl rfl ?_
        refine mJ_iload dX8_places_189 rfl ?_
        refine mJ_if_eq 203 dX8_places_191 rfl (fun c => absurd c (by decide)) (fun _ => ?_)
        refine mJ_aload_n dX8_places_194 rfl ?_
        refine mJ_get dX8_places_195 f_X8_7 rfl rfl ?_
        refine mJ_iconst (v := 0) dX8_places_198 rfl ?_
        refine mJ_ialdN dX8_places_199 rfl (j := 0) ⟨rfl, by decide, by decide⟩ ?_
        refine mJ_goto 209 dX8_places_200 rfl ?_
        refine mJ_iload dX8_places_209 rfl ?_
        refine mJ_if_eq 223 dX8_places_211 rfl (fun c => absurd c (by decide)) (fun _ => ?_)
        refine mJ_aload_n dX8_places_214 rfl ?_
        refine mJ_get dX8_places_215 f_X8_7 rfl rfl ?_
        refine mJ_iconst (v := 2) dX8_places_218 rfl ?_
        refine mJ_ialdN dX8_places_219 rfl (j := 2) ⟨rfl, by decide, by decide⟩ ?_
        refine mJ_goto 229 dX8_places_220 rfl ?_
        refine mJ_cV5i dX8_places_229 e_X8_shift n_X8_62 ⟨Nat.le_of_ble_eq_true rfl, Nat.le_of_ble_eq_true rfl⟩ rfl rfl (Nat.le_of_ble_eq_true rfl) (C_X8_shift) ?_
        refine mJ_goto 236 dX8_places_232 rfl ?_
        refine mJ_put dX8_places_236 p_X8_66 rfl (Nat.le_of_ble_eq_true rfl) rfl rfl (h2 := mH _ _ _ _ _ _ _ _ _ _ _ _ _ _ _ _ _ _ _ _ _) rfl ?_
        refine mJ_aload_n dX8_places_239 rfl ?_
        refine mJ_dup dX8_places_240 rfl ?_
        refine mJ_get dX8_places_241 f_X8_59 rfl rfl ?_
        refine mJ_aload_n dX8_places_244 rfl ?_
        refine mJ_get dX8_places_245 f_X8_66 rfl rfl ?_
        refine mJ_isub dX8_places_248 ?_
        refine mJ_put dX8_places_249 p_X8_59 rfl (Nat.le_of_ble_eq_true rfl) rfl rfl (h2 := mH _ _ _ _ _ _ _ _ _ _ _ _ _ _ _ _ _ _ _ _ _) rfl ?_
        refine mJ_aload_n dX8_places_252 rfl ?_
        refine mJ_aload_n dX8_places_253 rfl ?_
        refine mJ_aload_n dX8_places_254 rfl ?_
        refine mJ_get dX8_places_255 f_X8_59 rfl rfl ?_
        refine mJ_iload dX8_places_258 rfl ?_
        refine mJ_cV2i dX8_places_260 e_X8_isGood n_X8_48 ⟨Nat.le_of_ble_eq_true rfl, Nat.le_of_ble_eq_true rfl⟩ rfl rfl (Nat.le_of_ble_eq_true rfl) (C_X8_isGood) ?_
        refine mJ_put dX8_places_263 p_X8_69 rfl (Nat.le_of_ble_eq_true rfl) (m_nz (b2i_01 _)).1 (m_nz (b2i_01 _)).2 (h2 := mH _ _ _ _ _ _ _ _ _ _ _ _ _ _ _ _ _ _ _ _ _) rfl ?_
        refine mJ_iload dX8_places_266 rfl ?_
        refine mJ_aload_n dX8_places_268 rfl ?_
        refine mJ_get dX8_places_269 f_X8_66 rfl rfl ?_
        refine mJ_iadd dX8_places_272 ?_
        refine mJ_istore dX8_places_273 (Nat.le_of_ble_eq_true rfl) (ls2 := [_, _, _, _, _, _, _, _, _, _, _, _, _, _, _]) rfl ?_
        refine mJ_aload_n dX8_places_275 rfl ?_
        refine mJ_iload dX8_places_276 rfl ?_
        refine mJ_if_eq 286 dX8_places_278 rfl (fun c => absurd c (by decide)) (fun _ => ?_)
        refine mJ_iload dX8_places_281 rfl ?_
        refine mJ_goto 322 dX8_places_283 rfl ?_
        refine mJ_put dX8_places_322 p_X8_73 rfl (Nat.le_of_ble_eq_true rfl) rfl rfl (h2 := mH _ _ _ _ _ _ _ _ _ _ _ _ _ _ _ _ _ _ _ _ _) rfl ?_
        refine mJ_aload_n dX8_places_325 rfl ?_
        refine mJ_iload dX8_places_326 rfl ?_
        refine mJ_if_ne 336 dX8_places_328 rfl (fun _ => ?_) (fun c => absurd c (by decide))
        refine mJ_iload_n dX8_places_336 rfl ?_
        refine mJ_iconst (v := 2) dX8_places_337 rfl ?_
        refine mJ_icmp_ne 360 dX8_places_338 rfl (fun c => absurd c (by decide)) (fun _ => ?_)
        refine mJ_iload dX8_places_341 rfl ?_
        refine mJ_aload_n dX8_places_343 rfl ?_
        refine mJ_iload_n dX8_places_344 rfl ?_
        refine mJ_iconst (v := 3) dX8_places_345 rfl ?_
        refine mJ_cV2i dX8_places_346 e_X8_ofAnchor n_X8_40 ⟨Nat.le_of_ble_eq_true rfl, Nat.le_of_ble_eq_true rfl⟩ rfl rfl (Nat.le_of_ble_eq_true rfl) (C_X8_ofAnchor (w := 3) ha (by decide)) ?_
        refine mJ_iadd dX8_places_349 ?_
        refine mJ_aload_n dX8_places_350 rfl ?_
        refine mJ_get dX8_places_351 f_X8_7 rfl rfl ?_
        refine mJ_iconst (v := 4) dX8_places_354 rfl ?_
        refine mJ_ialdN dX8_places_355 rfl (j := 4) ⟨rfl, by decide, by decide⟩ ?_
        refine mJ_iadd dX8_places_356 ?_
        refine mJ_goto 372 dX8_places_357 rfl ?_
        refine mJ_put dX8_places_372 p_X8_76 rfl (Nat.le_of_ble_eq_true rfl) rfl rfl (h2 := mH _ _ _ _ _ _ _ _ _ _ _ _ _ _ _ _ _ _ _ _ _) rfl ?_
        exact mJ_vret dX8_places_375 rfl (rfl) (by have hp := p_an_of ha0 ha; simp_all [p_x, p_y, p_al, p_gd, p_ar, p_sh, p_a0, p_b0, p_ln, p_sz, p_bg, iif_lv0, iif_lv1, iif_lv2, iif_lv3, iif_bf0, iif_bf1, iif_bf2, iif_bf3])
    · refine mJ_iload dX8_places_135 rfl ?_
      refine mJ_iload dX8_places_137 rfl ?_
      refine mJ_iload dX8_places_139 rfl ?_
      refine mJ_isub dX8_places_141 ?_
      refine mJ_cS1i dX8_places_142 e_X8_half n_X8_55 ⟨Nat.le_of_ble_eq_true rfl, Nat.le_of_ble_eq_true rfl⟩ (Nat.le_of_ble_eq_true rfl) (C_X8_half) ?_
      refine mJ_iadd dX8_places_145 ?_
      refine mJ_goto 157 dX8_places_146 rfl ?_
      refine mJ_istore dX8_places_157 (Nat.le_of_ble_eq_true rfl) (ls2 := [_, _, _, _, _, _, _, _, _, _, _, _, _, _, _]) rfl ?_
      refine mJ_aload_n dX8_places_159 rfl ?_
      refine mJ_iload dX8_places_160 rfl ?_
      refine mJ_iload dX8_places_162 rfl ?_
      refine mJ_isub dX8_places_164 ?_
      refine mJ_put dX8_places_165 p_X8_59 rfl (Nat.le_of_ble_eq_true rfl) rfl rfl (h2 := mH _ _ _ _ _ _ _ _ _ _ _ _ _ _ _ _ _ _ _ _ _) rfl ?_
      refine mJ_aload_n dX8_places_168 rfl ?_
      refine mJ_aload_n dX8_places_169 rfl ?_
      refine mJ_iload_n dX8_places_170 rfl ?_
      refine mJ_bipush (v := 6) dX8_places_171 rfl ?_
      refine mJ_cV2i dX8_places_173 e_X8_ofHint n_X8_52 ⟨Nat.le_of_ble_eq_true rfl, Nat.le_of_ble_eq_true rfl⟩ rfl rfl (Nat.le_of_ble_eq_true rfl) (C_X8_ofHint (w := 6) hh (by decide)) ?_
      refine mJ_iconst (v := 1) dX8_places_176 rfl ?_
      refine mJ_icmp_ne 235 dX8_places_177 rfl (fun c_177 => ?_) (fun c_177 => ?_)
      · refine mJ_iconst (v := 0) dX8_places_235 rfl ?_
        refine mJ_put dX8_places_236 p_X8_66 rfl (Nat.le_of_ble_eq_true rfl) rfl rfl (h2 := mH _ _ _ _ _ _ _ _ _ _ _ _ _ _ _ _ _ _ _ _ _) rfl ?_
        refine mJ_aload_n dX8_places_239 rfl ?_
        refine mJ_dup dX8_places_240 rfl ?_
        refine mJ_get dX8_places_241 f_X8_59 rfl rfl ?_
        refine mJ_aload_n dX8_places_244 rfl ?_
        refine mJ_get dX8_places_245 f_X8_66 rfl rfl ?_
        refine mJ_isub dX8_places_248 ?_
        refine mJ_put dX8_places_249 p_X8_59 rfl (Nat.le_of_ble_eq_true rfl) rfl rfl (h2 := mH _ _ _ _ _ _ _ _ _ _ _ _ _ _ _ _ _ _ _ _ _) rfl ?_
        refine mJ_aload_n dX8_places_252 rfl ?_
        refine mJ_aload_n dX8_places_253 rfl ?_
        refine mJ_aload_n dX8_places_254 rfl ?_
        refine mJ_get dX8_places_255 f_X8_59 rfl rfl ?_
        refine mJ_iload dX8_places_258 rfl ?_
        refine mJ_cV2i dX8_places_260 e_X8_isGood n_X8_48 ⟨Nat.le_of_ble_eq_true rfl, Nat.le_of_ble_eq_true rfl⟩ rfl rfl (Nat.le_of_ble_eq_true rfl) (C_X8_isGood) ?_
        refine mJ_put dX8_places_263 p_X8_69 rfl (Nat.le_of_ble_eq_true rfl) (m_nz (b2i_01 _)).1 (m_nz (b2i_01 _)).2 (h2 := mH _ _ _ _ _ _ _ _ _ _ _ _ _ _ _ _ _ _ _ _ _) rfl ?_
        refine mJ_iload dX8_places_266 rfl ?_
        refine mJ_aload_n dX8_places_268 rfl ?_
        refine mJ_get dX8_places_269 f_X8_66 rfl rfl ?_
        refine mJ_iadd dX8_places_272 ?_
        refine mJ_istore dX8_places_273 (Nat.le_of_ble_eq_true rfl) (ls2 := [_, _, _, _, _, _, _, _, _, _, _, _, _, _, _]) rfl ?_
        refine mJ_aload_n dX8_places_275 rfl ?_
        refine mJ_iload dX8_places_276 rfl ?_
        refine mJ_if_eq 286 dX8_places_278 rfl (fun c => absurd c (by decide)) (fun _ => ?_)
        refine mJ_iload dX8_places_281 rfl ?_
        refine mJ_goto 322 dX8_places_283 rfl ?_
        refine mJ_put dX8_places_322 p_X8_73 rfl (Nat.le_of_ble_eq_true rfl) rfl rfl (h2 := mH _ _ _ _ _ _ _ _ _ _ _ _ _ _ _ _ _ _ _ _ _) rfl ?_
        refine mJ_aload_n dX8_places_325 rfl ?_
        refine mJ_iload dX8_places_326 rfl ?_
        refine mJ_if_ne 336 dX8_places_328 rfl (fun _ => ?_) (fun c => absurd c (by decide))
        refine mJ_iload_n dX8_places_336 rfl ?_
        refine mJ_iconst (v := 2) dX8_places_337 rfl ?_
        refine mJ_icmp_ne 360 dX8_places_338 rfl (fun c => absurd c (by decide)) (fun _ => ?_)
        refine mJ_iload dX8_places_341 rfl ?_
        refine mJ_aload_n dX8_places_343 rfl ?_
        refine mJ_iload_n dX8_places_344 rfl ?_
        refine mJ_iconst (v := 3) dX8_places_345 rfl ?_
        refine mJ_cV2i dX8_places_346 e_X8_ofAnchor n_X8_40 ⟨Nat.le_of_ble_eq_true rfl, Nat.le_of_ble_eq_true rfl⟩ rfl rfl (Nat.le_of_ble_eq_true rfl) (C_X8_ofAnchor (w := 3) ha (by decide)) ?_
        refine mJ_iadd dX8_places_349 ?_
        refine mJ_aload_n dX8_places_350 rfl ?_
        refine mJ_get dX8_places_351 f_X8_7 rfl rfl ?_
        refine mJ_iconst (v := 4) dX8_places_354 rfl ?_
        refine mJ_ialdN dX8_places_355 rfl (j := 4) ⟨rfl, by decide, by decide⟩ ?_
        refine mJ_iadd dX8_places_356 ?_
        refine mJ_goto 372 dX8_places_357 rfl ?_
        refine mJ_put dX8_places_372 p_X8_76 rfl (Nat.le_of_ble_eq_true rfl) rfl rfl (h2 := mH _ _ _ _ _ _ _ _ _ _ _ _ _ _ _ _ _ _ _ _ _) rfl ?_
        exact mJ_vret dX8_places_375 rfl (rfl) (by have hp := p_an_of ha0 ha; simp_all [p_x, p_y, p_al, p_gd, p_ar, p_sh, p_a0, p_b0, p_ln, p_sz, p_bg, iif_lv0, iif_lv1, iif_lv2, iif_lv3, iif_bf0, iif_bf1, iif_bf2, iif_bf3])
      · refine mJ_aload_n dX8_places_180 rfl ?_
        refine mJ_iload dX8_places_181 rfl ?_
        refine mJ_iload dX8_places_183 rfl ?_
        refine mJ_aload_n dX8_places_185 rfl ?_
        refine mJ_get dX8_places_186 f_X8_59 rfl rfl ?_
        refine mJ_iload dX8_places_189 rfl ?_
        refine mJ_if_eq 203 dX8_places_191 rfl (fun c => absurd c (by decide)) (fun _ => ?_)
        refine mJ_aload_n dX8_places_194 rfl ?_
        refine mJ_get dX8_places_195 f_X8_7 rfl rfl ?_
        refine mJ_iconst (v := 0) dX8_places_198 rfl ?_
        refine mJ_ialdN dX8_places_199 rfl (j := 0) ⟨rfl, by decide, by decide⟩ ?_
        refine mJ_goto 209 dX8_places_200 rfl ?_
        refine mJ_iload dX8_places_209 rfl ?_
        refine mJ_if_eq 223 dX8_places_211 rfl (fun c => absurd c (by decide)) (fun _ => ?_)
        refine mJ_aload_n dX8_places_214 rfl ?_
        refine mJ_get dX8_places_215 f_X8_7 rfl rfl ?_
        refine mJ_iconst (v := 2) dX8_places_218 rfl ?_
        refine mJ_ialdN dX8_places_219 rfl (j := 2) ⟨rfl, by decide, by decide⟩ ?_
        refine mJ_goto 229 dX8_places_220 rfl ?_
        refine mJ_cV5i dX8_places_229 e_X8_shift n_X8_62 ⟨Nat.le_of_ble_eq_true rfl, Nat.le_of_ble_eq_true rfl⟩ rfl rfl (Nat.le_of_ble_eq_true rfl) (C_X8_shift) ?_
        refine mJ_goto 236 dX8_places_232 rfl ?_
        refine mJ_put dX8_places_236 p_X8_66 rfl (Nat.le_of_ble_eq_true rfl) rfl rfl (h2 := mH _ _ _ _ _ _ _ _ _ _ _ _ _ _ _ _ _ _ _ _ _) rfl ?_
        refine mJ_aload_n dX8_places_239 rfl ?_
        refine mJ_dup dX8_places_240 rfl ?_
        refine mJ_get dX8_places_241 f_X8_59 rfl rfl ?_
        refine mJ_aload_n dX8_places_244 rfl ?_
        refine mJ_get dX8_places_245 f_X8_66 rfl rfl ?_
        refine mJ_isub dX8_places_248 ?_
        refine mJ_put dX8_places_249 p_X8_59 rfl (Nat.le_of_ble_eq_true rfl) rfl rfl (h2 := mH _ _ _ _ _ _ _ _ _ _ _ _ _ _ _ _ _ _ _ _ _) rfl ?_
        refine mJ_aload_n dX8_places_252 rfl ?_
        refine mJ_aload_n dX8_places_253 rfl ?_
        refine mJ_aload_n dX8_places_254 rfl ?_
        refine mJ_get dX8_places_255 f_X8_59 rfl rfl ?_
        refine mJ_iload dX8_places_258 rfl ?_
        refine mJ_cV2i dX8_places_260 e_X8_isGood n_X8_48 ⟨Nat.le_of_ble_eq_true rfl, Nat.le_of_ble_eq_true rfl⟩ rfl rfl (Nat.le_of_ble_eq_true rfl) (C_X8_isGood) ?_
        refine mJ_put dX8_places_263 p_X8_69 rfl (Nat.le_of_ble_eq_true rfl) (m_nz (b2i_01 _)).1 (m_nz (b2i_01 _)).2 (h2 := mH _ _ _ _ _ _ _ _ _ _ _ _ _ _ _ _ _ _ _ _ _) rfl ?_
        refine mJ_iload dX8_places_266 rfl ?_
        refine mJ_aload_n dX8_places_268 rfl ?_
        refine mJ_get dX8_places_269 f_X8_66 rfl rfl ?_
        refine mJ_iadd dX8_places_272 ?_
        refine mJ_istore dX8_places_273 (Nat.le_of_ble_eq_true rfl) (ls2 := [_, _, _, _, _, _, _, _, _, _, _, _, _, _, _]) rfl ?_
        refine mJ_aload_n dX8_places_275 rfl ?_
        refine mJ_iload dX8_places_276 rfl ?_
        refine mJ_if_eq 286 dX8_places_278 rfl (fun c => absurd c (by decide)) (fun _ => ?_)
        refine mJ_iload dX8_places_281 rfl ?_
        refine mJ_goto 322 dX8_places_283 rfl ?_
        refine mJ_put dX8_places_322 p_X8_73 rfl (Nat.le_of_ble_eq_true rfl) rfl rfl (h2 := mH _ _ _ _ _ _ _ _ _ _ _ _ _ _ _ _ _ _ _ _ _) rfl ?_
        refine mJ_aload_n dX8_places_325 rfl ?_
        refine mJ_iload dX8_places_326 rfl ?_
        refine mJ_if_ne 336 dX8_places_328 rfl (fun _ => ?_) (fun c => absurd c (by decide))
        refine mJ_iload_n dX8_places_336 rfl ?_
        refine mJ_iconst (v := 2) dX8_places_337 rfl ?_
        refine mJ_icmp_ne 360 dX8_places_338 rfl (fun c => absurd c (by decide)) (fun _ => ?_)
        refine mJ_iload dX8_places_341 rfl ?_
        refine mJ_aload_n dX8_places_343 rfl ?_
        refine mJ_iload_n dX8_places_344 rfl ?_
        refine mJ_iconst (v := 3) dX8_places_345 rfl ?_
        refine mJ_cV2i dX8_places_346 e_X8_ofAnchor n_X8_40 ⟨Nat.le_of_ble_eq_true rfl, Nat.le_of_ble_eq_true rfl⟩ rfl rfl (Nat.le_of_ble_eq_true rfl) (C_X8_ofAnchor (w := 3) ha (by decide)) ?_
        refine mJ_iadd dX8_places_349 ?_
        refine mJ_aload_n dX8_places_350 rfl ?_
        refine mJ_get dX8_places_351 f_X8_7 rfl rfl ?_
        refine mJ_iconst (v := 4) dX8_places_354 rfl ?_
        refine mJ_ialdN dX8_places_355 rfl (j := 4) ⟨rfl, by decide, by decide⟩ ?_
        refine mJ_iadd dX8_places_356 ?_
        refine mJ_goto 372 dX8_places_357 rfl ?_
        refine mJ_put dX8_places_372 p_X8_76 rfl (Nat.le_of_ble_eq_true rfl) rfl rfl (h2 := mH _ _ _ _ _ _ _ _ _ _ _ _ _ _ _ _ _ _ _ _ _) rfl ?_
        exact mJ_vret dX8_places_375 rfl (rfl) (by have hp := p_an_of ha0 ha; simp_all [p_x, p_y, p_al, p_gd, p_ar, p_sh, p_a0, p_b0, p_ln, p_sz, p_bg, iif_lv0, iif_lv1, iif_lv2, iif_lv3, iif_bf0, iif_bf1, iif_bf2, iif_bf3])
  · refine mJ_iload dX8_places_124 rfl ?_
    refine mJ_goto 157 dX8_places_126 rfl ?_
    refine mJ_istore dX8_places_157 (Nat.le_of_ble_eq_true rfl) (ls2 := [_, _, _, _, _, _, _, _, _, _, _, _, _, _, _]) rfl ?_
    refine mJ_aload_n dX8_places_159 rfl ?_
    refine mJ_iload dX8_places_160 rfl ?_
    refine mJ_iload dX8_places_162 rfl ?_
    refine mJ_isub dX8_places_164 ?_
    refine mJ_put dX8_places_165 p_X8_59 rfl (Nat.le_of_ble_eq_true rfl) rfl rfl (h2 := mH _ _ _ _ _ _ _ _ _ _ _ _ _ _ _ _ _ _ _ _ _) rfl ?_
    refine mJ_aload_n dX8_places_168 rfl ?_
    refine mJ_aload_n dX8_places_169 rfl ?_
    refine mJ_iload_n dX8_places_170 rfl ?_
    refine mJ_bipush (v := 6) dX8_places_171 rfl ?_
    refine mJ_cV2i dX8_places_173 e_X8_ofHint n_X8_52 ⟨Nat.le_of_ble_eq_true rfl, Nat.le_of_ble_eq_true rfl⟩ rfl rfl (Nat.le_of_ble_eq_true rfl) (C_X8_ofHint (w := 6) hh (by decide)) ?_
    refine mJ_iconst (v := 1) dX8_places_176 rfl ?_
    refine mJ_icmp_ne 235 dX8_places_177 rfl (fun c_177 => ?_) (fun c_177 => ?_)
    · refine mJ_iconst (v := 0) dX8_places_235 rfl ?_
      refine mJ_put dX8_places_236 p_X8_66 rfl (Nat.le_of_ble_eq_true rfl) rfl rfl (h2 := mH _ _ _ _ _ _ _ _ _ _ _ _ _ _ _ _ _ _ _ _ _) rfl ?_
      refine mJ_aload_n dX8_places_239 rfl ?_
      refine mJ_dup dX8_places_240 rfl ?_
      refine mJ_get dX8_places_241 f_X8_59 rfl rfl ?_
      refine mJ_aload_n dX8_places_244 rfl ?_
      refine mJ_get dX8_places_245 f_X8_66 rfl rfl ?_
      refine mJ_isub dX8_places_248 ?_
      refine mJ_put dX8_places_249 p_X8_59 rfl (Nat.le_of_ble_eq_true rfl) rfl rfl (h2 := mH _ _ _ _ _ _ _ _ _ _ _ _ _ _ _ _ _ _ _ _ _) rfl ?_
      refine mJ_aload_n dX8_places_252 rfl ?_
      refine mJ_aload_n dX8_places_253 rfl ?_
      refine mJ_aload_n dX8_places_254 rfl ?_
      refine mJ_get dX8_places_255 f_X8_59 rfl rfl ?_
      refine mJ_iload dX8_places_258 rfl ?_
      refine mJ_cV2i dX8_places_260 e_X8_isGood n_X8_48 ⟨Nat.le_of_ble_eq_true rfl, Nat.le_of_ble_eq_true rfl⟩ rfl rfl (Nat.le_of_ble_eq_true rfl) (C_X8_isGood) ?_
      refine mJ_put dX8_places_263 p_X8_69 rfl (Nat.le_of_ble_eq_true rfl) (m_nz (b2i_01 _)).1 (m_nz (b2i_01 _)).2 (h2 := mH _ _ _ _ _ _ _ _ _ _ _ _ _ _ _ _ _ _ _ _ _) rfl ?_
      refine mJ_iload dX8_places_266 rfl ?_
      refine mJ_aload_n dX8_places_268 rfl ?_
      refine mJ_get dX8_places_269 f_X8_66 rfl rfl ?_
      refine mJ_iadd dX8_places_272 ?_
      refine mJ_istore dX8_places_273 (Nat.le_of_ble_eq_true rfl) (ls2 := [_, _, _, _, _, _, _, _, _, _, _, _, _, _, _]) rfl ?_
      refine mJ_aload_n dX8_places_275 rfl ?_
      refine mJ_iload dX8_places_276 rfl ?_
      refine mJ_if_eq 286 dX8_places_278 rfl (fun c => absurd c (by decide)) (fun _ => ?_)
      refine mJ_iload dX8_places_281 rfl ?_
      refine mJ_goto 322 dX8_places_283 rfl ?_
      refine mJ_put dX8_places_322 p_X8_73 rfl (Nat.le_of_ble_eq_true rfl) rfl rfl (h2 := mH _ _ _ _ _ _ _ _ _ _ _ _ _ _ _ _ _ _ _ _ _) rfl ?_
      refine mJ_aload_n dX8_places_325 rfl ?_
      refine mJ_iload dX8_places_326 rfl ?_
      refine mJ_if_ne 336 dX8_places_328 rfl (fun _ => ?_) (fun c => absurd c (by decide))
      refine mJ_iload_n dX8_places_336 rfl ?_
      refine mJ_iconst (v := 2) dX8_places_337 rfl ?_
      refine mJ_icmp_ne 360 dX8_places_338 rfl (fun c => absurd c (by decide)) (fun _ => ?_)
      refine mJ_iload dX8_places_341 rfl ?_
      refine mJ_aload_n dX8_places_343 rfl ?_
      refine mJ_iload_n dX8_places_344 rfl ?_
      refine mJ_iconst (v := 3) dX8_places_345 rfl ?_
      refine mJ_cV2i dX8_places_346 e_X8_ofAnchor n_X8_40 ⟨Nat.le_of_ble_eq_true rfl, Nat.le_of_ble_eq_true rfl⟩ rfl rfl (Nat.le_of_ble_eq_true rfl) (C_X8_ofAnchor (w := 3) ha (by decide)) ?_
      refine mJ_iadd dX8_places_349 ?_
      refine mJ_aload_n dX8_places_350 rfl ?_
      refine mJ_get dX8_places_351 f_X8_7 rfl rfl ?_
      refine mJ_iconst (v := 4) dX8_places_354 rfl ?_
      refine mJ_ialdN dX8_places_355 rfl (j := 4) ⟨rfl, by decide, by decide⟩ ?_
      refine mJ_iadd dX8_places_356 ?_
      refine mJ_goto 372 dX8_places_357 rfl ?_
      refine mJ_put dX8_places_372 p_X8_76 rfl (Nat.le_of_ble_eq_true rfl) rfl rfl (h2 := mH _ _ _ _ _ _ _ _ _ _ _ _ _ _ _ _ _ _ _ _ _) rfl ?_
      exact mJ_vret dX8_places_375 rfl (rfl) (by have hp := p_an_of ha0 ha; simp_all [p_x, p_y, p_al, p_gd, p_ar, p_sh, p_a0, p_b0, p_ln, p_sz, p_bg, iif_lv0, iif_lv1, iif_lv2, iif_lv3, iif_bf0, iif_bf1, iif_bf2, iif_bf3])
    · refine mJ_aload_n dX8_places_180 rfl ?_
      refine mJ_iload dX8_places_181 rfl ?_
      refine mJ_iload dX8_places_183 rfl ?_
      refine mJ_aload_n dX8_places_185 rfl ?_
      refine mJ_get dX8_places_186 f_X8_59 rfl rfl ?_
      refine mJ_iload dX8_places_189 rfl ?_
      refine mJ_if_eq 203 dX8_places_191 rfl (fun c => absurd c (by decide)) (fun _ => ?_)
      refine mJ_aload_n dX8_places_194 rfl ?_
      refine mJ_get dX8_places_195 f_X8_7 rfl rfl ?_
      refine mJ_iconst (v := 0) dX8_places_198 rfl ?_
      refine mJ_ialdN dX8_places_199 rfl (j := 0) ⟨rfl, by decide, by decide⟩ ?_
      refine mJ_goto 209 dX8_places_200 rfl ?_
      refine mJ_iload dX8_places_209 rfl ?_
      refine mJ_if_eq 223 dX8_places_211 rfl (fun c => absurd c (by decide)) (fun _ => ?_)
      refine mJ_aload_n dX8_places_214 rfl ?_
      refine mJ_get dX8_places_215 f_X8_7 rfl rfl ?_
      refine mJ_iconst (v := 2) dX8_places_218 rfl ?_
      refine mJ_ialdN dX8_places_219 rfl (j := 2) ⟨rfl, by decide, by decide⟩ ?_
      refine mJ_goto 229 dX8_places_220 rfl ?_
      refine mJ_cV5i dX8_places_229 e_X8_shift n_X8_62 ⟨Nat.le_of_ble_eq_true rfl, Nat.le_of_ble_eq_true rfl⟩ rfl rfl (Nat.le_of_ble_eq_true rfl) (C_X8_shift) ?_
      refine mJ_goto 236 dX8_places_232 rfl ?_
      refine mJ_put dX8_places_236 p_X8_66 rfl (Nat.le_of_ble_eq_true rfl) rfl rfl (h2 := mH _ _ _ _ _ _ _ _ _ _ _ _ _ _ _ _ _ _ _ _ _) rfl ?_
      refine mJ_aload_n dX8_places_239 rfl ?_
      refine mJ_dup dX8_places_240 rfl ?_
      refine mJ_get dX8_places_241 f_X8_59 rfl rfl ?_
      refine mJ_aload_n dX8_places_244 rfl ?_
      refine mJ_get dX8_places_245 f_X8_66 rfl rfl ?_
      refine mJ_isub dX8_places_248 ?_
      refine mJ_put dX8_places_249 p_X8_59 rfl (Nat.le_of_ble_eq_true rfl) rfl rfl (h2 := mH _ _ _ _ _ _ _ _ _ _ _ _ _ _ _ _ _ _ _ _ _) rfl ?_
      refine mJ_aload_n dX8_places_252 rfl ?_
      refine mJ_aload_n dX8_places_253 rfl ?_
      refine mJ_aload_n dX8_places_254 rfl ?_
      refine mJ_get dX8_places_255 f_X8_59 rfl rfl ?_
      refine mJ_iload dX8_places_258 rfl ?_
      refine mJ_cV2i dX8_places_260 e_X8_isGood n_X8_48 ⟨Nat.le_of_ble_eq_true rfl, Nat.le_of_ble_eq_true rfl⟩ rfl rfl (Nat.le_of_ble_eq_true rfl) (C_X8_isGood) ?_
      refine mJ_put dX8_places_263 p_X8_69 rfl (Nat.le_of_ble_eq_true rfl) (m_nz (b2i_01 _)).1 (m_nz (b2i_01 _)).2 (h2 := mH _ _ _ _ _ _ _ _ _ _ _ _ _ _ _ _ _ _ _ _ _) rfl ?_
      refine mJ_iload dX8_places_266 rfl ?_
      refine mJ_aload_n dX8_places_268 rfl ?_
      refine mJ_get dX8_places_269 f_X8_66 rfl rfl ?_
      refine mJ_iadd dX8_places_272 ?_
      refine mJ_istore dX8_places_273 (Nat.le_of_ble_eq_true rfl) (ls2 := [_, _, _, _, _, _, _, _, _, _, _, _, _, _, _]) rfl ?_
      refine mJ_aload_n dX8_places_275 rfl ?_
      refine mJ_iload dX8_places_276 rfl ?_
      refine mJ_if_eq 286 dX8_places_278 rfl (fun c => absurd c (by decide)) (fun _ => ?_)
      refine mJ_iload dX8_places_281 rfl ?_
      refine mJ_goto 322 dX8_places_283 rfl ?_
      refine mJ_put dX8_places_322 p_X8_73 rfl (Nat.le_of_ble_eq_true rfl) rfl rfl (h2 := mH _ _ _ _ _ _ _ _ _ _ _ _ _ _ _ _ _ _ _ _ _) rfl ?_
      refine mJ_aload_n dX8_places_325 rfl ?_
      refine mJ_iload dX8_places_326 rfl ?_
      refine mJ_if_ne 336 dX8_places_328 rfl (fun _ => ?_) (fun c => absurd c (by decide))
      refine mJ_iload_n dX8_places_336 rfl ?_
      refine mJ_iconst (v := 2) dX8_places_337 rfl ?_
      refine mJ_icmp_ne 360 dX8_places_338 rfl (fun c => absurd c (by decide)) (fun _ => ?_)
      refine mJ_iload dX8_places_341 rfl ?_
      refine mJ_aload_n dX8_places_343 rfl ?_
      refine mJ_iload_n dX8_places_344 rfl ?_
      refine mJ_iconst (v := 3) dX8_places_345 rfl ?_
      refine mJ_cV2i dX8_places_346 e_X8_ofAnchor n_X8_40 ⟨Nat.le_of_ble_eq_true rfl, Nat.le_of_ble_eq_true rfl⟩ rfl rfl (Nat.le_of_ble_eq_true rfl) (C_X8_ofAnchor (w := 3) ha (by decide)) ?_
      refine mJ_iadd dX8_places_349 ?_
      refine mJ_aload_n dX8_places_350 rfl ?_
      refine mJ_get dX8_places_351 f_X8_7 rfl rfl ?_
      refine mJ_iconst (v := 4) dX8_places_354 rfl ?_
      refine mJ_ialdN dX8_places_355 rfl (j := 4) ⟨rfl, by decide, by decide⟩ ?_
      refine mJ_iadd dX8_places_356 ?_
      refine mJ_goto 372 dX8_places_357 rfl ?_
      refine mJ_put dX8_places_372 p_X8_76 rfl (Nat.le_of_ble_eq_true rfl) rfl rfl (h2 := mH _ _ _ _ _ _ _ _ _ _ _ _ _ _ _ _ _ _ _ _ _) rfl ?_
      exact mJ_vret dX8_places_375 rfl (rfl) (by have hp := p_an_of ha0 ha; simp_all [p_x, p_y, p_al, p_gd, p_ar, p_sh, p_a0, p_b0, p_ln, p_sz, p_bg, iif_lv0, iif_lv1, iif_lv2, iif_lv3, iif_bf0, iif_bf1, iif_bf2, iif_bf3])
set_option maxHeartbeats 4000000 in
set_option maxRecDepth 100000 in
theorem C_X8_places_3 {d was text ord why son tri : aF} {sta typ at_ sig fst snd rea lef top shf arr goo shn trs : Int32} {h a : Nat} (hh : h < 12) (ha0 : dH d h 0 = nI a) (ha : a < 10) : mCt k_X8_places [.ref 0, .int (nI h), .int 3] (mH d was sta text typ at_ sig fst snd rea lef top shf arr goo ord why son shn tri trs) none (mH d was sta text typ at_ sig fst snd rea (p_x d h 3) (p_y d h 3) (p_sh d h 3) (p_ar d h 3) (b2i (p_gd d h 3)) ord why son shn tri trs) := by
  refine mCt_intro (plainFor_of_name rfl) (Nat.le_of_ble_eq_true rfl) (m_all rfl) (ls := [_, _, _, _, _, _, _, _, _, _, _, _, _, _, _]) rfl ?_
  refine mJ_aload_n dX8_places_0 rfl ?_
  refine mJ_iload_n dX8_places_1 rfl ?_
  refine mJ_iconst (v := 0) dX8_places_2 rfl ?_
  refine mJ_cV2i dX8_places_3 e_X8_ofHint n_X8_52 ⟨Nat.le_of_ble_eq_true rfl, Nat.le_of_ble_eq_true rfl⟩ rfl rfl (Nat.le_of_ble_eq_true rfl) (C_X8_ofHint (w := 0) hh (by decide)) ?_
  refine mJ_top ha0 ?_
  refine mJ_istore_n dX8_places_6 (Nat.le_of_ble_eq_true rfl) (ls2 := [_, _, _, _, _, _, _, _, _, _, _, _, _, _, _]) rfl ?_
  refine mJ_iload_n dX8_places_7 rfl ?_
  refine mJ_iconst (v := 2) dX8_places_8 rfl ?_
  refine mJ_irem dX8_places_9 (by decide) ?_
  refine mJ_top (show (3 : Int32) - 3 / 2 * 2 = 1 by decide) ?_
  refine mJ_if_ne 17 dX8_places_10 rfl (fun _ => ?_) (fun c => absurd c (by decide))
  refine mJ_iconst (v := 0) dX8_places_17 rfl ?_
  refine mJ_istore dX8_places_18 (Nat.le_of_ble_eq_true rfl) (ls2 := [_, _, _, _, _, _, _, _, _, _, _, _, _, _, _]) rfl ?_
  refine mJ_aload_n dX8_places_20 rfl ?_
  refine mJ_iload_n dX8_places_21 rfl ?_
  refine mJ_iconst (v := 0) dX8_places_22 rfl ?_
  refine mJ_cV2i dX8_places_23 e_X8_ofAnchor n_X8_40 ⟨Nat.le_of_ble_eq_true rfl, Nat.le_of_ble_eq_true rfl⟩ rfl rfl (Nat.le_of_ble_eq_true rfl) (C_X8_ofAnchor (w := 0) ha (by decide)) ?_
  refine mJ_istore dX8_places_26 (Nat.le_of_ble_eq_true rfl) (ls2 := [_, _, _, _, _, _, _, _, _, _, _, _, _, _, _]) rfl ?_
  refine mJ_aload_n dX8_places_28 rfl ?_
  refine mJ_iload_n dX8_places_29 rfl ?_
  refine mJ_iconst (v := 1) dX8_places_30 rfl ?_
  refine mJ_cV2i dX8_places_31 e_X8_ofAnchor n_X8_40 ⟨Nat.le_of_ble_eq_true rfl, Nat.le_of_ble_eq_true rfl⟩ rfl rfl (Nat.le_of_ble_eq_true rfl) (C_X8_ofAnchor (w := 1) ha (by decide)) ?_
  refine mJ_istore dX8_places_34 (Nat.le_of_ble_eq_true rfl) (ls2 := [_, _, _, _, _, _, _, _, _, _, _, _, _, _, _]) rfl ?_
  refine mJ_aload_n dX8_places_36 rfl ?_
  refine mJ_iload_n dX8_places_37 rfl ?_
  refine mJ_iconst (v := 1) dX8_places_38 rfl ?_
  refine mJ_cV2i dX8_places_39 e_X8_ofHint n_X8_52 ⟨Nat.le_of_ble_eq_true rfl, Nat.le_of_ble_eq_true rfl⟩ rfl rfl (Nat.le_of_ble_eq_true rfl) (C_X8_ofHint (w := 1) hh (by decide)) ?_
  refine mJ_istore dX8_places_42 (Nat.le_of_ble_eq_true rfl) (ls2 := [_, _, _, _, _, _, _, _, _, _, _, _, _, _, _]) rfl ?_
  refine mJ_aload_n dX8_places_44 rfl ?_
  refine mJ_iload_n dX8_places_45 rfl ?_
  refine mJ_iconst (v := 2) dX8_places_46 rfl ?_
  refine mJ_cV2i dX8_places_47 e_X8_ofHint n_X8_52 ⟨Nat.le_of_ble_eq_true rfl, Nat.le_of_ble_eq_true rfl⟩ rfl rfl (Nat.le_of_ble_eq_true rfl) (C_X8_ofHint (w := 2) hh (by decide)) ?_
  refine mJ_istore dX8_places_50 (Nat.le_of_ble_eq_true rfl) (ls2 := [_, _, _, _, _, _, _, _, _, _, _, _, _, _, _]) rfl ?_
  refine mJ_iload dX8_places_52 rfl ?_
  refine mJ_if_eq 62 dX8_places_54 rfl (fun _ => ?_) (fun c => absurd c (by decide))
  refine mJ_iload dX8_places_62 rfl ?_
  refine mJ_istore dX8_places_64 (Nat.le_of_ble_eq_true rfl) (ls2 := [_, _, _, _, _, _, _, _, _, _, _, _, _, _, _]) rfl ?_
  refine mJ_iload dX8_places_66 rfl ?_
  refine mJ_if_eq 80 dX8_places_68 rfl (fun _ => ?_) (fun c => absurd c (by decide))
  refine mJ_aload_n dX8_places_80 rfl ?_
  refine mJ_iload_n dX8_places_81 rfl ?_
  refine mJ_iconst (v := 3) dX8_places_82 rfl ?_
  refine mJ_cV2i dX8_places_83 e_X8_ofAnchor n_X8_40 ⟨Nat.le_of_ble_eq_true rfl, Nat.le_of_ble_eq_true rfl⟩ rfl rfl (Nat.le_of_ble_eq_true rfl) (C_X8_ofAnchor (w := 3) ha (by decide)) ?_
  refine mJ_istore dX8_places_86 (Nat.le_of_ble_eq_true rfl) (ls2 := [_, _, _, _, _, _, _, _, _, _, _, _, _, _, _]) rfl ?_
  refine mJ_iload dX8_places_88 rfl ?_
  refine mJ_if_eq 98 dX8_places_90 rfl (fun _ => ?_) (fun c => absurd c (by decide))
  refine mJ_iload dX8_places_98 rfl ?_
  refine mJ_istore dX8_places_100 (Nat.le_of_ble_eq_true rfl) (ls2 := [_, _, _, _, _, _, _, _, _, _, _, _, _, _, _]) rfl ?_
  refine mJ_aload_n dX8_places_102 rfl ?_
  refine mJ_iload_n dX8_places_103 rfl ?_
  refine mJ_iconst (v := 4) dX8_places_104 rfl ?_
  refine mJ_cV2i dX8_places_105 e_X8_ofHint n_X8_52 ⟨Nat.le_of_ble_eq_true rfl, Nat.le_of_ble_eq_true rfl⟩ rfl rfl (Nat.le_of_ble_eq_true rfl) (C_X8_ofHint (w := 4) hh (by decide)) ?_
  refine mJ_istore dX8_places_108 (Nat.le_of_ble_eq_true rfl) (ls2 := [_, _, _, _, _, _, _, _, _, _, _, _, _, _, _]) rfl ?_
  refine mJ_iload dX8_places_110 rfl ?_
  refine mJ_iload dX8_places_112 rfl ?_
  refine mJ_iconst (v := 2) dX8_places_114 rfl ?_
  refine mJ_idiv dX8_places_115 (by decide) ?_
  refine mJ_iadd dX8_places_116 ?_
  refine mJ_istore dX8_places_117 (Nat.le_of_ble_eq_true rfl) (ls2 := [_, _, _, _, _, _, _, _, _, _, _, _, _, _, _]) rfl ?_
  refine mJ_iload dX8_places_119 rfl ?_
  refine mJ_if_ne 129 dX8_places_121 rfl (fun c_121 => ?_) (fun c_121 => ?_)
  · refine mJ_iload dX8_places_129 rfl ?_
    refine mJ_iconst (v := 1) dX8_places_131 rfl ?_
    refine mJ_icmp_ne 149 dX8_places_132 rfl (fun c_132 => ?_) (fun c_132 => ?_)
    · refine mJ_iload dX8_places_149 rfl ?_
      refine mJ_iload dX8_places_151 rfl ?_
      refine mJ_iadd dX8_places_153 ?_
      refine mJ_iload dX8_places_154 rfl ?_
      refine mJ_isub dX8_places_156 ?_
      refine mJ_istore dX8_places_157 (Nat.le_of_ble_eq_true rfl) (ls2 := [_, _, _, _, _, _, _, _, _, _, _, _, _, _, _]) rfl ?_
      refine mJ_aload_n dX8_places_159 rfl ?_
      refine mJ_iload dX8_places_160 rfl ?_
      refine mJ_iload dX8_places_162 rfl ?_
      refine mJ_isub dX8_places_164 ?_
      refine mJ_put dX8_places_165 p_X8_59 rfl (Nat.le_of_ble_eq_true rfl) rfl rfl (h2 := mH _ _ _ _ _ _ _ _ _ _ _ _ _ _ _ _ _ _ _ _ _) rfl ?_
      refine mJ_aload_n dX8_places_168 rfl ?_
      refine mJ_aload_n dX8_places_169 rfl ?_
      refine mJ_iload_n dX8_places_170 rfl ?_
      refine mJ_bipush (v := 6) dX8_places_171 rfl ?_
      refine mJ_cV2i dX8_places_173 e_X8_ofHint n_X8_52 ⟨Nat.le_of_ble_eq_true rfl, Nat.le_of_ble_eq_true rfl⟩ rfl rfl (Nat.le_of_ble_eq_true rfl) (C_X8_ofHint (w := 6) hh (by decide)) ?_
      refine mJ_iconst (v := 1) dX8_places_176 rfl ?_
      refine mJ_icmp_ne 235 dX8_places_177 rfl (fun c_177 => ?_) (fun c_177 => ?_)
      · refine mJ_iconst (v := 0) dX8_places_235 rfl ?_
        refine mJ_put dX8_places_236 p_X8_66 rfl (Nat.le_of_ble_eq_true rfl) rfl rfl (h2 := mH _ _ _ _ _ _ _ _ _ _ _ _ _ _ _ _ _ _ _ _ _) rfl ?_
        refine mJ_aload_n dX8_places_239 rfl ?_
        refine mJ_dup dX8_places_240 rfl ?_
        refine mJ_get dX8_places_241 f_X8_59 rfl rfl ?_
        refine mJ_aload_n dX8_places_244 rfl ?_
        refine mJ_get dX8_places_245 f_X8_66 rfl rfl ?_
        refine mJ_isub dX8_places_248 ?_
        refine mJ_put dX8_places_249 p_X8_59 rfl (Nat.le_of_ble_eq_true rfl) rfl rfl (h2 := mH _ _ _ _ _ _ _ _ _ _ _ _ _ _ _ _ _ _ _ _ _) rfl ?_
        refine mJ_aload_n dX8_places_252 rfl ?_
        refine mJ_aload_n dX8_places_253 rfl ?_
        refine mJ_aload_n dX8_places_254 rfl ?_
        refine mJ_get dX8_places_255 f_X8_59 rfl rfl ?_
        refine mJ_iload dX8_places_258 rfl ?_
        refine mJ_cV2i dX8_places_260 e_X8_isGood n_X8_48 ⟨Nat.le_of_ble_eq_true rfl, Nat.le_of_ble_eq_true rfl⟩ rfl rfl (Nat.le_of_ble_eq_true rfl) (C_X8_isGood) ?_
        refine mJ_put dX8_places_263 p_X8_69 rfl (Nat.le_of_ble_eq_true rfl) (m_nz (b2i_01 _)).1 (m_nz (b2i_01 _)).2 (h2 := mH _ _ _ _ _ _ _ _ _ _ _ _ _ _ _ _ _ _ _ _ _) rfl ?_
        refine mJ_iload dX8_places_266 rfl ?_
        refine mJ_aload_n dX8_places_268 rfl ?_
        refine mJ_get dX8_places_269 f_X8_66 rfl rfl ?_
        refine mJ_iadd dX8_places_272 ?_
        refine mJ_istore dX8_places_273 (Nat.le_of_ble_eq_true rfl) (ls2 := [_, _, _, _, _, _, _, _, _, _, _, _, _, _, _]) rfl ?_
        refine mJ_aload_n dX8_places_275 rfl ?_
        refine mJ_iload dX8_places_276 rfl ?_
        refine mJ_if_eq 286 dX8_places_278 rfl (fun _ => ?_) (fun c => absurd c (by decide))
        refine mJ_iload_n dX8_places_286 rfl ?_
        refine mJ_iconst (v := 1) dX8_places_287 rfl ?_
        refine mJ_icmp_ne 310 dX8_places_288 rfl (fun _ => ?_) (fun c => absurd c (by decide))
        refine mJ_iload dX8_places_310 rfl ?_
        refine mJ_aload_n dX8_places_312 rfl ?_
        refine mJ_get dX8_places_313 f_X8_7 rfl rfl ?_
        refine mJ_iconst (v := 4) dX8_places_316 rfl ?_
        refine mJ_ialdN dX8_places_317 rfl (j := 4) ⟨rfl, by decide, by decide⟩ ?_
        refine mJ_isub dX8_places_318 ?_
        refine mJ_iload dX8_places_319 rfl ?_
        refine mJ_isub dX8_places_321 ?_
        refine mJ_put dX8_places_322 p_X8_73 rfl (Nat.le_of_ble_eq_true rfl) rfl rfl (h2 := mH _ _ _ _ _ _ _ _ _ _ _ _ _ _ _ _ _ _ _ _ _) rfl ?_
        refine mJ_aload_n dX8_places_325 rfl ?_
        refine mJ_iload dX8_places_326 rfl ?_
        refine mJ_if_ne 336 dX8_places_328 rfl (fun c => absurd c (by decide)) (fun _ => ?_)
        refine mJ_iload dX8_places_331 rfl ?_
        refine mJ_goto 372 dX8_places_333 rfl ?_
        refine mJ_put dX8_places_372 p_X8_76 rfl (Nat.le_of_ble_eq_true rfl) rfl rfl (h2 := mH _ _ _ _ _ _ _ _ _ _ _ _ _ _ _ _ _ _ _ _ _) rfl ?_
        exact mJ_vret dX8_places_375 rfl (rfl) (by have hp := p_an_of ha0 ha; simp_all [p_x, p_y, p_al, p_gd, p_ar, p_sh, p_a0, p_b0, p_ln, p_sz, p_bg, iif_lv0, iif_lv1, iif_lv2, iif_lv3, iif_bf0, iif_bf1, iif_bf2, iif_bf3])
      · refine mJ_aload_n dX8_places_180 rfl ?_
        refine mJ_iload dX8_places_181 rfl ?_
        refine mJ_iload dX8_places_183 rfl ?_
        refine mJ_aload_n dX8_places_185 rfl ?_
        refine mJ_get dX8_places_186 f_X8_59 rfl rfl ?_
        refine mJ_iload dX8_places_189 rfl ?_
        refine mJ_if_eq 203 dX8_places_191 rfl (fun _ => ?_) (fun c => absurd c (by decide))
        refine mJ_aload_n dX8_places_203 rfl ?_
        refine mJ_get dX8_places_204 f_X8_7 rfl rfl ?_
        refine mJ_iconst (v := 1) dX8_places_207 rfl ?_
        refine mJ_ialdN dX8_places_208 rfl (j := 1) ⟨rfl, by decide, by decide⟩ ?_
        refine mJ_iload dX8_places_209 rfl ?_
        refine mJ_if_eq 223 dX8_places_211 rfl (fun _ => ?_) (fun c => absurd c (by decide))
        refine mJ_aload_n dX8_places_223 rfl ?_
        refine mJ_get dX8_places_224 f_X8_7 rfl rfl ?_
        refine mJ_iconst (v := 3) dX8_places_227 rfl ?_
        refine mJ_ialdN dX8_places_228 rfl (j := 3) ⟨rfl, by decide, by decide⟩ ?_
        refine mJ_cV5i dX8_places_229 e_X8_shift n_X8_62 ⟨Nat.le_of_ble_eq_true rfl, Nat.le_of_ble_eq_true rfl⟩ rfl rfl (Nat.le_of_ble_eq_true rfl) (C_X8_shift) ?_
        refine mJ_goto 236 dX8_places_232 rfl ?_
        refine mJ_put dX8_places_236 p_X8_66 rfl (Nat.le_of_ble_eq_true rfl) rfl rfl (h2 := mH _ _ _ _ _ _ _ _ _ _ _ _ _ _ _ _ _ _ _ _ _) rfl ?_
        refine mJ_aload_n dX8_places_239 rfl ?_
        refine mJ_dup dX8_places_240 rfl ?_
        refine mJ_get dX8_places_241 f_X8_59 rfl rfl ?_
        refine mJ_aload_n dX8_places_244 rfl ?_
        refine mJ_get dX8_places_245 f_X8_66 rfl rfl ?_
        refine mJ_isub dX8_places_248 ?_
        refine mJ_put dX8_places_249 p_X8_59 rfl (Nat.le_of_ble_eq_true rfl) rfl rfl (h2 := mH _ _ _ _ _ _ _ _ _ _ _ _ _ _ _ _ _ _ _ _ _) rfl ?_
        refine mJ_aload_n dX8_places_252 rfl ?_
        refine mJ_aload_n dX8_places_253 rfl ?_
        refine mJ_aload_n dX8_places_254 rfl ?_
        refine mJ_get dX8_places_255 f_X8_59 rfl rfl ?_
        refine mJ_iload dX8_places_258 rfl ?_
        refine mJ_cV2i dX8_places_260 e_X8_isGood n_X8_48 ⟨Nat.le_of_ble_eq_true rfl, Nat.le_of_ble_eq_true rfl⟩ rfl rfl (Nat.le_of_ble_eq_true rfl) (C_X8_isGood) ?_
        refine mJ_put dX8_places_263 p_X8_69 rfl (Nat.le_of_ble_eq_true rfl) (m_nz (b2i_01 _)).1 (m_nz (b2i_01 _)).2 (h2 := mH _ _ _ _ _ _ _ _ _ _ _ _ _ _ _ _ _ _ _ _ _) rfl ?_
        refine mJ_iload dX8_places_266 rfl ?_
        refine mJ_aload_n dX8_places_268 rfl ?_
        refine mJ_get dX8_places_269 f_X8_66 rfl rfl ?_
        refine mJ_iadd dX8_places_272 ?_
        refine mJ_istore dX8_places_273 (Nat.le_of_ble_eq_true rfl) (ls2 := [_, _, _, _, _, _, _, _, _, _, _, _, _, _, _]) rfl ?_
        refine mJ_aload_n dX8_places_275 rfl ?_
        refine mJ_iload dX8_places_276 rfl ?_
        refine mJ_if_eq 286 dX8_places_278 rfl (fun _ => ?_) (fun c => absurd c (by decide))
        refine mJ_iload_n dX8_places_286 rfl ?_
        refine mJ_iconst (v := 1) dX8_places_287 rfl ?_
        refine mJ_icmp_ne 310 dX8_places_288 rfl (fun _ => ?_) (fun c => absurd c (by decide))
        refine mJ_iload dX8_places_310 rfl ?_
        refine mJ_aload_n dX8_places_312 rfl ?_
        refine mJ_get dX8_places_313 f_X8_7 rfl rfl ?_
        refine mJ_iconst (v := 4) dX8_places_316 rfl ?_
        refine mJ_ialdN dX8_places_317 rfl (j := 4) ⟨rfl, by decide, by decide⟩ ?_
        refine mJ_isub dX8_places_318 ?_
        refine mJ_iload dX8_places_319 rfl ?_
        refine mJ_isub dX8_places_321 ?_
        refine mJ_put dX8_places_322 p_X8_73 rfl (Nat.le_of_ble_eq_true rfl) rfl rfl (h2 := mH _ _ _ _ _ _ _ _ _ _ _ _ _ _ _ _ _ _ _ _ _) rfl ?_
        refine mJ_aload_n dX8_places_325 rfl ?_
        refine mJ_iload dX8_places_326 rfl ?_
        refine mJ_if_ne 336 dX8_places_328 rfl (fun c => absurd c (by decide)) (fun _ => ?_)
        refine mJ_iload dX8_places_331 rfl ?_
        refine mJ_goto 372 dX8_places_333 rfl ?_
        refine mJ_put dX8_places_372 p_X8_76 rfl (Nat.le_of_ble_eq_true rfl) rfl rfl (h2 := mH _ _ _ _ _ _ _ _ _ _ _ _ _ _ _ _ _ _ _ _ _) rfl ?_
        exact mJ_vret dX8_places_375 rfl (rfl) (by have hp := p_an_of ha0 ha; simp_all [p_x, p_y, p_al, p_gd, p_ar, p_sh, p_a0, p_b0, p_ln, p_sz, p_bg, iif_lv0, iif_lv1, iif_lv2, iif_lv3, iif_bf0, iif_bf1, iif_bf2, iif_bf3])
    · refine mJ_iload dX8_places_135 rfl ?_
      refine mJ_iload dX8_places_137 rfl ?_
      refine mJ_iload dX8_places_139 rfl ?_
      refine mJ_isub dX8_places_141 ?_
      refine mJ_cS1i dX8_places_142 e_X8_half n_X8_55 ⟨Nat.le_of_ble_eq_true rfl, Nat.le_of_ble_eq_true rfl⟩ (Nat.le_of_ble_eq_true rfl) (C_X8_half) ?_
      refine mJ_iadd dX8_places_145 ?_
      refine mJ_goto 157 dX8_places_146 rfl ?_
      refine mJ_istore dX8_places_157 (Nat.le_of_ble_eq_true rfl) (ls2 := [_, _, _, _, _, _, _, _, _, _, _, _, _, _, _]) rfl ?_
      refine mJ_aload_n dX8_places_159 rfl ?_
      refine mJ_iload dX8_places_160 rfl ?_
      refine mJ_iload dX8_places_162 rfl ?_
      refine mJ_isub dX8_places_164 ?_
      refine mJ_put dX8_places_165 p_X8_59 rfl (Nat.le_of_ble_eq_true rfl) rfl rfl (h2 := mH _ _ _ _ _ _ _ _ _ _ _ _ _ _ _ _ _ _ _ _ _) rfl ?_
      refine mJ_aload_n dX8_places_168 rfl ?_
      refine mJ_aload_n dX8_places_169 rfl ?_
      refine mJ_iload_n dX8_places_170 rfl ?_
      refine mJ_bipush (v := 6) dX8_places_171 rfl ?_
      refine mJ_cV2i dX8_places_173 e_X8_ofHint n_X8_52 ⟨Nat.le_of_ble_eq_true rfl, Nat.le_of_ble_eq_true rfl⟩ rfl rfl (Nat.le_of_ble_eq_true rfl) (C_X8_ofHint (w := 6) hh (by decide)) ?_
      refine mJ_iconst (v := 1) dX8_places_176 rfl ?_
      refine mJ_icmp_ne 235 dX8_places_177 rfl (fun c_177 => ?_) (fun c_177 => ?_)
      · refine mJ_iconst (v := 0) dX8_places_235 rfl ?_
        refine mJ_put dX8_places_236 p_X8_66 rfl (Nat.le_of_ble_eq_true rfl) rfl rfl (h2 := mH _ _ _ _ _ _ _ _ _ _ _ _ _ _ _ _ _ _ _ _ _) rfl ?_
        refine mJ_aload_n dX8_places_239 rfl ?_
        refine mJ_dup dX8_places_240 rfl ?_
        refine mJ_get dX8_places_241 f_X8_59 rfl rfl ?_
        refine mJ_aload_n dX8_places_244 rfl ?_
        refine mJ_get dX8_places_245 f_X8_66 rfl rfl ?_
        refine mJ_isub dX8_places_248 ?_
        refine mJ_put dX8_places_249 p_X8_59 rfl (Nat.le_of_ble_eq_true rfl) rfl rfl (h2 := mH _ _ _ _ _ _ _ _ _ _ _ _ _ _ _ _ _ _ _ _ _) rfl ?_
        refine mJ_aload_n dX8_places_252 rfl ?_
        refine mJ_aload_n dX8_places_253 rfl ?_
        refine mJ_aload_n dX8_places_254 rfl ?_
        refine mJ_get dX8_places_255 f_X8_59 rfl rfl ?_
        refine mJ_iload dX8_places_258 rfl ?_
        refine mJ_cV2i dX8_places_260 e_X8_isGood n_X8_48 ⟨Nat.le_of_ble_eq_true rfl, Nat.le_of_ble_eq_true rfl⟩ rfl rfl (Nat.le_of_ble_eq_true rfl) (C_X8_isGood) ?_
        refine mJ_put dX8_places_263 p_X8_69 rfl (Nat.le_of_ble_eq_true rfl) (m_nz (b2i_01 _)).1 (m_nz (b2i_01 _)).2 (h2 := mH _ _ _ _ _ _ _ _ _ _ _ _ _ _ _ _ _ _ _ _ _) rfl ?_
        refine mJ_iload dX8_places_266 rfl ?_
        refine mJ_aload_n dX8_places_268 rfl ?_
        refine mJ_get dX8_places_269 f_X8_66 rfl rfl ?_
        refine mJ_iadd dX8_places_272 ?_
        refine mJ_istore dX8_places_273 (Nat.le_of_ble_eq_true rfl) (ls2 := [_, _, _, _, _, _, _, _, _, _, _, _, _, _, _]) rfl ?_
        refine mJ_aload_n dX8_places_275 rfl ?_
        refine mJ_iload dX8_places_276 rfl ?_
        refine mJ_if_eq 286 dX8_places_278 rfl (fun _ => ?_) (fun c => absurd c (by decide))
        refine mJ_iload_n dX8_places_286 rfl ?_
        refine mJ_iconst (v := 1) dX8_places_287 rfl ?_
        refine mJ_icmp_ne 310 dX8_places_288 rfl (fun _ => ?_) (fun c => absurd c (by decide))
        refine mJ_iload dX8_places_310 rfl ?_
        refine mJ_aload_n dX8_places_312 rfl ?_
        refine mJ_get dX8_places_313 f_X8_7 rfl rfl ?_
        refine mJ_iconst (v := 4) dX8_places_316 rfl ?_
        refine mJ_ialdN dX8_places_317 rfl (j := 4) ⟨rfl, by decide, by decide⟩ ?_
        refine mJ_isub dX8_places_318 ?_
        refine mJ_iload dX8_places_319 rfl ?_
        refine mJ_isub dX8_places_321 ?_
        refine mJ_put dX8_places_322 p_X8_73 rfl (Nat.le_of_ble_eq_true rfl) rfl rfl (h2 := mH _ _ _ _ _ _ _ _ _ _ _ _ _ _ _ _ _ _ _ _ _) rfl ?_
        refine mJ_aload_n dX8_places_325 rfl ?_
        refine mJ_iload dX8_places_326 rfl ?_
        refine mJ_if_ne 336 dX8_places_328 rfl (fun c => absurd c (by decide)) (fun _ => ?_)
        refine mJ_iload dX8_places_331 rfl ?_
        refine mJ_goto 372 dX8_places_333 rfl ?_
        refine mJ_put dX8_places_372 p_X8_76 rfl (Nat.le_of_ble_eq_true rfl) rfl rfl (h2 := mH _ _ _ _ _ _ _ _ _ _ _ _ _ _ _ _ _ _ _ _ _) rfl ?_
        exact mJ_vret dX8_places_375 rfl (rfl) (by have hp := p_an_of ha0 ha; simp_all [p_x, p_y, p_al, p_gd, p_ar, p_sh, p_a0, p_b0, p_ln, p_sz, p_bg, iif_lv0, iif_lv1, iif_lv2, iif_lv3, iif_bf0, iif_bf1, iif_bf2, iif_bf3])
      · refine mJ_aload_n dX8_places_180 rfl ?_
        refine mJ_iload dX8_places_181 rfl ?_
        refine mJ_iload dX8_places_183 rfl ?_
        refine mJ_aload_n dX8_places_185 rfl ?_
        refine mJ_get dX8_places_186 f_X8_59 rfl rfl ?_
        refine mJ_iload dX8_places_189 rfl ?_
        refine mJ_if_eq 203 dX8_places_191 rfl (fun _ => ?_) (fun c => absurd c (by decide))
        refine mJ_aload_n dX8_places_203 rfl ?_
        refine mJ_get dX8_places_204 f_X8_7 rfl rfl ?_
        refine mJ_iconst (v := 1) dX8_places_207 rfl ?_
        refine mJ_ialdN dX8_places_208 rfl (j := 1) ⟨rfl, by decide, by decide⟩ ?_
        refine mJ_iload dX8_places_209 rfl ?_
        refine mJ_if_eq 223 dX8_places_211 rfl (fun _ => ?_) (fun c => absurd c (by decide))
        refine mJ_aload_n dX8_places_223 rfl ?_
        refine mJ_get dX8_places_224 f_X8_7 rfl rfl ?_
        refine mJ_iconst (v := 3) dX8_places_227 rfl ?_
        refine mJ_ialdN dX8_places_228 rfl (j := 3) ⟨rfl, by decide, by decide⟩ ?_
        refine mJ_cV5i dX8_places_229 e_X8_shift n_X8_62 ⟨Nat.le_of_ble_eq_true rfl, Nat.le_of_ble_eq_true rfl⟩ rfl rfl (Nat.le_of_ble_eq_true rfl) (C_X8_shift) ?_
        refine mJ_goto 236 dX8_places_232 rfl ?_
        refine mJ_put dX8_places_236 p_X8_66 rfl (Nat.le_of_ble_eq_true rfl) rfl rfl (h2 := mH _ _ _ _ _ _ _ _ _ _ _ _ _ _ _ _ _ _ _ _ _) rfl ?_
        refine mJ_aload_n dX8_places_239 rfl ?_
        refine mJ_dup dX8_places_240 rfl ?_
        refine mJ_get dX8_places_241 f_X8_59 rfl rfl ?_
        refine mJ_aload_n dX8_places_244 rfl ?_
        refine mJ_get dX8_places_245 f_X8_66 rfl rfl ?_
        refine mJ_isub dX8_places_248 ?_
        refine mJ_put dX8_places_249 p_X8_59 rfl (Nat.le_of_ble_eq_true rfl) rfl rfl (h2 := mH _ _ _ _ _ _ _ _ _ _ _ _ _ _ _ _ _ _ _ _ _) rfl ?_
        refine mJ_aload_n dX8_places_252 rfl ?_
        refine mJ_aload_n dX8_places_253 rfl ?_
        refine mJ_aload_n dX8_places_254 rfl ?_
        refine mJ_get dX8_places_255 f_X8_59 rfl rfl ?_
        refine mJ_iload dX8_places_258 rfl ?_
        refine mJ_cV2i dX8_places_260 e_X8_isGood n_X8_48 ⟨Nat.le_of_ble_eq_true rfl, Nat.le_of_ble_eq_true rfl⟩ rfl rfl (Nat.le_of_ble_eq_true rfl) (C_X8_isGood) ?_
        refine mJ_put dX8_places_263 p_X8_69 rfl (Nat.le_of_ble_eq_true rfl) (m_nz (b2i_01 _)).1 (m_nz (b2i_01 _)).2 (h2 := mH _ _ _ _ _ _ _ _ _ _ _ _ _ _ _ _ _ _ _ _ _) rfl ?_
        refine mJ_iload dX8_places_266 rfl ?_
        refine mJ_aload_n dX8_places_268 rfl ?_
        refine mJ_get dX8_places_269 f_X8_66 rfl rfl ?_
        refine mJ_iadd dX8_places_272 ?_
        refine mJ_istore dX8_places_273 (Nat.le_of_ble_eq_true rfl) (ls2 := [_, _, _, _, _, _, _, _, _, _, _, _, _, _, _]) rfl ?_
        refine mJ_aload_n dX8_places_275 rfl ?_
        refine mJ_iload dX8_places_276 rfl ?_
        refine mJ_if_eq 286 dX8_places_278 rfl (fun _ => ?_) (fun c => absurd c (by decide))
        refine mJ_iload_n dX8_places_286 rfl ?_
        refine mJ_iconst (v := 1) dX8_places_287 rfl ?_
        refine mJ_icmp_ne 310 dX8_places_288 rfl (fun _ => ?_) (fun c => absurd c (by decide))
        refine mJ_iload dX8_places_310 rfl ?_
        refine mJ_aload_n dX8_places_312 rfl ?_
        refine mJ_get dX8_places_313 f_X8_7 rfl rfl ?_
        refine mJ_iconst (v := 4) dX8_places_316 rfl ?_
        refine mJ_ialdN dX8_places_317 rfl (j := 4) ⟨rfl, by decide, by decide⟩ ?_
        refine mJ_isub dX8_places_318 ?_
        refine mJ_iload dX8_places_319 rfl ?_
        refine mJ_isub dX8_places_321 ?_
        refine mJ_put dX8_places_322 p_X8_73 rfl (Nat.le_of_ble_eq_true rfl) rfl rfl (h2 := mH _ _ _ _ _ _ _ _ _ _ _ _ _ _ _ _ _ _ _ _ _) rfl ?_
        refine mJ_aload_n dX8_places_325 rfl ?_
        refine mJ_iload dX8_places_326 rfl ?_
        refine mJ_if_ne 336 dX8_places_328 rfl (fun c => absurd c (by decide)) (fun _ => ?_)
        refine mJ_iload dX8_places_331 rfl ?_
        refine mJ_goto 372 dX8_places_333 rfl ?_
        refine mJ_put dX8_places_372 p_X8_76 rfl (Nat.le_of_ble_eq_true rfl) rfl rfl (h2 := mH _ _ _ _ _ _ _ _ _ _ _ _ _ _ _ _ _ _ _ _ _) rfl ?_
        exact mJ_vret dX8_places_375 rfl (rfl) (by have hp := p_an_of ha0 ha; simp_all [p_x, p_y, p_al, p_gd, p_ar, p_sh, p_a0, p_b0, p_ln, p_sz, p_bg, iif_lv0, iif_lv1, iif_lv2, iif_lv3, iif_bf0, iif_bf1, iif_bf2, iif_bf3])
  · refine mJ_iload dX8_places_124 rfl ?_
    refine mJ_goto 157 dX8_places_126 rfl ?_
    refine mJ_istore dX8_places_157 (Nat.le_of_ble_eq_true rfl) (ls2 := [_, _, _, _, _, _, _, _, _, _, _, _, _, _, _]) rfl ?_
    refine mJ_aload_n dX8_places_159 rfl ?_
    refine mJ_iload dX8_places_160 rfl ?_
    refine mJ_iload dX8_places_162 rfl ?_
    refine mJ_isub dX8_places_164 ?_
    refine mJ_put dX8_places_165 p_X8_59 rfl (Nat.le_of_ble_eq_true rfl) rfl rfl (h2 := mH _ _ _ _ _ _ _ _ _ _ _ _ _ _ _ _ _ _ _ _ _) rfl ?_
    refine mJ_aload_n dX8_places_168 rfl ?_
    refine mJ_aload_n dX8_places_169 rfl ?_
    refine mJ_iload_n dX8_places_170 rfl ?_
    refine mJ_bipush (v := 6) dX8_places_171 rfl ?_
    refine mJ_cV2i dX8_places_173 e_X8_ofHint n_X8_52 ⟨Nat.le_of_ble_eq_true rfl, Nat.le_of_ble_eq_true rfl⟩ rfl rfl (Nat.le_of_ble_eq_true rfl) (C_X8_ofHint (w := 6) hh (by decide)) ?_
    refine mJ_iconst (v := 1) dX8_places_176 rfl ?_
    refine mJ_icmp_ne 235 dX8_places_177 rfl (fun c_177 => ?_) (fun c_177 => ?_)
    · refine mJ_iconst (v := 0) dX8_places_235 rfl ?_
      refine mJ_put dX8_places_236 p_X8_66 rfl (Nat.le_of_ble_eq_true rfl) rfl rfl (h2 := mH _ _ _ _ _ _ _ _ _ _ _ _ _ _ _ _ _ _ _ _ _) rfl ?_
      refine mJ_aload_n dX8_places_239 rfl ?_
      refine mJ_dup dX8_places_240 rfl ?_
      refine mJ_get dX8_places_241 f_X8_59 rfl rfl ?_
      refine mJ_aload_n dX8_places_244 rfl ?_
      refine mJ_get dX8_places_245 f_X8_66 rfl rfl ?_
      refine mJ_isub dX8_places_248 ?_
      refine mJ_put dX8_places_249 p_X8_59 rfl (Nat.le_of_ble_eq_true rfl) rfl rfl (h2 := mH _ _ _ _ _ _ _ _ _ _ _ _ _ _ _ _ _ _ _ _ _) rfl ?_
      refine mJ_aload_n dX8_places_252 rfl ?_
      refine mJ_aload_n dX8_places_253 rfl ?_
      refine mJ_aload_n dX8_places_254 rfl ?_
      refine mJ_get dX8_places_255 f_X8_59 rfl rfl ?_
      refine mJ_iload dX8_places_258 rfl ?_
      refine mJ_cV2i dX8_places_260 e_X8_isGood n_X8_48 ⟨Nat.le_of_ble_eq_true rfl, Nat.le_of_ble_eq_true rfl⟩ rfl rfl (Nat.le_of_ble_eq_true rfl) (C_X8_isGood) ?_
      refine mJ_put dX8_places_263 p_X8_69 rfl (Nat.le_of_ble_eq_true rfl) (m_nz (b2i_01 _)).1 (m_nz (b2i_01 _)).2 (h2 := mH _ _ _ _ _ _ _ _ _ _ _ _ _ _ _ _ _ _ _ _ _) rfl ?_
      refine mJ_iload dX8_places_266 rfl ?_
      refine mJ_aload_n dX8_places_268 rfl ?_
      refine mJ_get dX8_places_269 f_X8_66 rfl rfl ?_
      refine mJ_iadd dX8_places_272 ?_
      refine mJ_istore dX8_places_273 (Nat.le_of_ble_eq_true rfl) (ls2 := [_, _, _, _, _, _, _, _, _, _, _, _, _, _, _]) rfl ?_
      refine mJ_aload_n dX8_places_275 rfl ?_
      refine mJ_iload dX8_places_276 rfl ?_
      refine mJ_if_eq 286 dX8_places_278 rfl (fun _ => ?_) (fun c => absurd c (by decide))
      refine mJ_iload_n dX8_places_286 rfl ?_
      refine mJ_iconst (v := 1) dX8_places_287 rfl ?_
      refine mJ_icmp_ne 310 dX8_places_288 rfl (fun _ => ?_) (fun c => absurd c (by decide))
      refine mJ_iload dX8_places_310 rfl ?_
      refine mJ_aload_n dX8_places_312 rfl ?_
      refine mJ_get dX8_places_313 f_X8_7 rfl rfl ?_
      refine mJ_iconst (v := 4) dX8_places_316 rfl ?_
      refine mJ_ialdN dX8_places_317 rfl (j := 4) ⟨rfl, by decide, by decide⟩ ?_
      refine mJ_isub dX8_places_318 ?_
      refine mJ_iload dX8_places_319 rfl ?_
      refine mJ_isub dX8_places_321 ?_
      refine mJ_put dX8_places_322 p_X8_73 rfl (Nat.le_of_ble_eq_true rfl) rfl rfl (h2 := mH _ _ _ _ _ _ _ _ _ _ _ _ _ _ _ _ _ _ _ _ _) rfl ?_
      refine mJ_aload_n dX8_places_325 rfl ?_
      refine mJ_iload dX8_places_326 rfl ?_
      refine mJ_if_ne 336 dX8_places_328 rfl (fun c => absurd c (by decide)) (fun _ => ?_)
      refine mJ_iload dX8_places_331 rfl ?_
      refine mJ_goto 372 dX8_places_333 rfl ?_
      refine mJ_put dX8_places_372 p_X8_76 rfl (Nat.le_of_ble_eq_true rfl) rfl rfl (h2 := mH _ _ _ _ _ _ _ _ _ _ _ _ _ _ _ _ _ _ _ _ _) rfl ?_
      exact mJ_vret dX8_places_375 rfl (rfl) (by have hp := p_an_of ha0 ha; simp_all [p_x, p_y, p_al, p_gd, p_ar, p_sh, p_a0, p_b0, p_ln, p_sz, p_bg, iif_lv0, iif_lv1, iif_lv2, iif_lv3, iif_bf0, iif_bf1, iif_bf2, iif_bf3])
    · refine mJ_aload_n dX8_places_180 rfl ?_
      refine mJ_iload dX8_places_181 rfl ?_
      refine mJ_iload dX8_places_183 rfl ?_
      refine mJ_aload_n dX8_places_185 rfl ?_
      refine mJ_get dX8_places_186 f_X8_59 rfl rfl ?_
      refine mJ_iload dX8_places_189 rfl ?_
      refine mJ_if_eq 203 dX8_places_191 rfl (fun _ => ?_) (fun c => absurd c (by decide))
      refine mJ_aload_n dX8_places_203 rfl ?_
      refine mJ_get dX8_places_204 f_X8_7 rfl rfl ?_
      refine mJ_iconst (v := 1) dX8_places_207 rfl ?_
      refine mJ_ialdN dX8_places_208 rfl (j := 1) ⟨rfl, by decide, by decide⟩ ?_
      refine mJ_iload dX8_places_209 rfl ?_
      refine mJ_if_eq 223 dX8_places_211 rfl (fun _ => ?_) (fun c => absurd c (by decide))
      refine mJ_aload_n dX8_places_223 rfl ?_
      refine mJ_get dX8_places_224 f_X8_7 rfl rfl ?_
      refine mJ_iconst (v := 3) dX8_places_227 rfl ?_
      refine mJ_ialdN dX8_places_228 rfl (j := 3) ⟨rfl, by decide, by decide⟩ ?_
      refine mJ_cV5i dX8_places_229 e_X8_shift n_X8_62 ⟨Nat.le_of_ble_eq_true rfl, Nat.le_of_ble_eq_true rfl⟩ rfl rfl (Nat.le_of_ble_eq_true rfl) (C_X8_shift) ?_
      refine mJ_goto 236 dX8_places_232 rfl ?_
      refine mJ_put dX8_places_236 p_X8_66 rfl (Nat.le_of_ble_eq_true rfl) rfl rfl (h2 := mH _ _ _ _ _ _ _ _ _ _ _ _ _ _ _ _ _ _ _ _ _) rfl ?_
      refine mJ_aload_n dX8_places_239 rfl ?_
      refine mJ_dup dX8_places_240 rfl ?_
      refine mJ_get dX8_places_241 f_X8_59 rfl rfl ?_
      refine mJ_aload_n dX8_places_244 rfl ?_
      refine mJ_get dX8_places_245 f_X8_66 rfl rfl ?_
      refine mJ_isub dX8_places_248 ?_
      refine mJ_put dX8_places_249 p_X8_59 rfl (Nat.le_of_ble_eq_true rfl) rfl rfl (h2 := mH _ _ _ _ _ _ _ _ _ _ _ _ _ _ _ _ _ _ _ _ _) rfl ?_
      refine mJ_aload_n dX8_places_252 rfl ?_
      refine mJ_aload_n dX8_places_253 rfl ?_
      refine mJ_aload_n dX8_places_254 rfl ?_
      refine mJ_get dX8_places_255 f_X8_59 rfl rfl ?_
      refine mJ_iload dX8_places_258 rfl ?_
      refine mJ_cV2i dX8_places_260 e_X8_isGood n_X8_48 ⟨Nat.le_of_ble_eq_true rfl, Nat.le_of_ble_eq_true rfl⟩ rfl rfl (Nat.le_of_ble_eq_true rfl) (C_X8_isGood) ?_
      refine mJ_put dX8_places_263 p_X8_69 rfl (Nat.le_of_ble_eq_true rfl) (m_nz (b2i_01 _)).1 (m_nz (b2i_01 _)).2 (h2 := mH _ _ _ _ _ _ _ _ _ _ _ _ _ _ _ _ _ _ _ _ _) rfl ?_
      refine mJ_iload dX8_places_266 rfl ?_
      refine mJ_aload_n dX8_places_268 rfl ?_
      refine mJ_get dX8_places_269 f_X8_66 rfl rfl ?_
      refine mJ_iadd dX8_places_272 ?_
      refine mJ_istore dX8_places_273 (Nat.le_of_ble_eq_true rfl) (ls2 := [_, _, _, _, _, _, _, _, _, _, _, _, _, _, _]) rfl ?_
      refine mJ_aload_n dX8_places_275 rfl ?_
      refine mJ_iload dX8_places_276 rfl ?_
      refine mJ_if_eq 286 dX8_places_278 rfl (fun _ => ?_) (fun c => absurd c (by decide))
      refine mJ_iload_n dX8_places_286 rfl ?_
      refine mJ_iconst (v := 1) dX8_places_287 rfl ?_
      refine mJ_icmp_ne 310 dX8_places_288 rfl (fun _ => ?_) (fun c => absurd c (by decide))
      refine mJ_iload dX8_places_310 rfl ?_
      refine mJ_aload_n dX8_places_312 rfl ?_
      refine mJ_get dX8_places_313 f_X8_7 rfl rfl ?_
      refine mJ_iconst (v := 4) dX8_places_316 rfl ?_
      refine mJ_ialdN dX8_places_317 rfl (j := 4) ⟨rfl, by decide, by decide⟩ ?_
      refine mJ_isub dX8_places_318 ?_
      refine mJ_iload dX8_places_319 rfl ?_
      refine mJ_isub dX8_places_321 ?_
      refine mJ_put dX8_places_322 p_X8_73 rfl (Nat.le_of_ble_eq_true rfl) rfl rfl (h2 := mH _ _ _ _ _ _ _ _ _ _ _ _ _ _ _ _ _ _ _ _ _) rfl ?_
      refine mJ_aload_n dX8_places_325 rfl ?_
      refine mJ_iload dX8_places_326 rfl ?_
      refine mJ_if_ne 336 dX8_places_328 rfl (fun c => absurd c (by decide)) (fun _ => ?_)
      refine mJ_iload dX8_places_331 rfl ?_
      refine mJ_goto 372 dX8_places_333 rfl ?_
      refine mJ_put dX8_places_372 p_X8_76 rfl (Nat.le_of_ble_eq_true rfl) rfl rfl (h2 := mH _ _ _ _ _ _ _ _ _ _ _ _ _ _ _ _ _ _ _ _ _) rfl ?_
      exact mJ_vret dX8_places_375 rfl (rfl) (by have hp := p_an_of ha0 ha; simp_all [p_x, p_y, p_al, p_gd, p_ar, p_sh, p_a0, p_b0, p_ln, p_sz, p_bg, iif_lv0, iif_lv1, iif_lv2, iif_lv3, iif_bf0, iif_bf1, iif_bf2, iif_bf3])
set_option maxHeartbeats 4000000 in
set_option maxRecDepth 100000 in
theorem C_X8_places {d was text ord why son tri : aF} {sta typ at_ sig fst snd rea lef top shf arr goo shn trs : Int32} {h a : Nat} {s : Int32} (hs : s = 0 ∨ s = 1 ∨ s = 2 ∨ s = 3) (hh : h < 12) (ha0 : dH d h 0 = nI a) (ha : a < 10) : mCt k_X8_places [.ref 0, .int (nI h), .int s] (mH d was sta text typ at_ sig fst snd rea lef top shf arr goo ord why son shn tri trs) none (mH d was sta text typ at_ sig fst snd rea (p_x d h s) (p_y d h s) (p_sh d h s) (p_ar d h s) (b2i (p_gd d h s)) ord why son shn tri trs) := by
  rcases hs with rfl | rfl | rfl | rfl
  · exact C_X8_places_0 hh ha0 ha
  · exact C_X8_places_1 hh ha0 ha
  · exact C_X8_places_2 hh ha0 ha
  · exact C_X8_places_3 hh ha0 ha
set_option maxHeartbeats 4000000 in
set_option maxRecDepth 100000 in
theorem C_X8_isIn {d was text ord why son tri : aF} {sta typ at_ sig fst snd rea lef top shf arr goo shn trs : Int32} {h a : Nat} {s : Int32} (hs : s = 0 ∨ s = 1 ∨ s = 2 ∨ s = 3) (hh : h < 12) (ha0 : dH d h 0 = nI a) (ha : a < 10) : mCt k_X8_isIn [.ref 0, .int (nI h), .int s] (mH d was sta text typ at_ sig fst snd rea lef top shf arr goo ord why son shn tri trs) (some (.int (b2i (p_in d h s)))) (mH d was sta text typ at_ sig fst snd rea (p_x d h s) (p_y d h s) (p_sh d h s) (p_ar d h s) (b2i (p_gd d h s)) ord why son shn tri trs) := by
  refine mCt_intro (plainFor_of_name rfl) (Nat.le_of_ble_eq_true rfl) (m_all rfl) (ls := [_, _, _]) rfl ?_
  refine mJ_aload_n dX8_isIn_0 rfl ?_
  refine mJ_iload_n dX8_isIn_1 rfl ?_
  refine mJ_iload_n dX8_isIn_2 rfl ?_
  refine mJ_cV2v dX8_isIn_3 e_X8_places n_X8_79 ⟨Nat.le_of_ble_eq_true rfl, Nat.le_of_ble_eq_true rfl⟩ rfl rfl (Nat.le_of_ble_eq_true rfl) (C_X8_places hs hh ha0 ha) ?_
  refine mJ_aload_n dX8_isIn_6 rfl ?_
  refine mJ_get dX8_isIn_7 f_X8_73 rfl rfl ?_
  refine mJ_aload_n dX8_isIn_10 rfl ?_
  refine mJ_get dX8_isIn_11 f_X8_7 rfl rfl ?_
  refine mJ_iconst (v := 0) dX8_isIn_14 rfl ?_
  refine mJ_ialdN dX8_isIn_15 rfl (j := 0) ⟨rfl, by decide, by decide⟩ ?_
  refine mJ_icmp_lt 90 dX8_isIn_16 rfl (fun c_16 => ?_) (fun c_16 => ?_)
  · refine mJ_iconst (v := 0) dX8_isIn_90 rfl ?_
    exact mJ_zret dX8_isIn_91 rfl (Or.inl rfl) (by first | exact z_t (by simp_all [p_in, q_sl]) | exact z_f (by simp_all [p_in, q_sl])) (rfl)
  · refine mJ_aload_n dX8_isIn_19 rfl ?_
    refine mJ_get dX8_isIn_20 f_X8_73 rfl rfl ?_
    refine mJ_aload_n dX8_isIn_23 rfl ?_
    refine mJ_iload_n dX8_isIn_24 rfl ?_
    refine mJ_iconst (v := 1) dX8_isIn_25 rfl ?_
    refine mJ_cV2i dX8_isIn_26 e_X8_ofHint n_X8_52 ⟨Nat.le_of_ble_eq_true rfl, Nat.le_of_ble_eq_true rfl⟩ rfl rfl (Nat.le_of_ble_eq_true rfl) (C_X8_ofHint (w := 1) hh (by decide)) ?_
    refine mJ_iadd dX8_isIn_29 ?_
    refine mJ_aload_n dX8_isIn_30 rfl ?_
    refine mJ_get dX8_isIn_31 f_X8_7 rfl rfl ?_
    refine mJ_iconst (v := 0) dX8_isIn_34 rfl ?_
    refine mJ_ialdN dX8_isIn_35 rfl (j := 0) ⟨rfl, by decide, by decide⟩ ?_
    refine mJ_aload_n dX8_isIn_36 rfl ?_
    refine mJ_get dX8_isIn_37 f_X8_7 rfl rfl ?_
    refine mJ_iconst (v := 2) dX8_isIn_40 rfl ?_
    refine mJ_ialdN dX8_isIn_41 rfl (j := 2) ⟨rfl, by decide, by decide⟩ ?_
    refine mJ_iadd dX8_isIn_42 ?_
    refine mJ_icmp_gt 90 dX8_isIn_43 rfl (fun c_43 => ?_) (fun c_43 => ?_)
    · refine mJ_iconst (v := 0) dX8_isIn_90 rfl ?_
      exact mJ_zret dX8_isIn_91 rfl (Or.inl rfl) (by first | exact z_t (by simp_all [p_in, q_sl]) | exact z_f (by simp_all [p_in, q_sl])) (rfl)
    · refine mJ_aload_n dX8_isIn_46 rfl ?_
      refine mJ_get dX8_isIn_47 f_X8_76 rfl rfl ?_
      refine mJ_aload_n dX8_isIn_50 rfl ?_
      refine mJ_get dX8_isIn_51 f_X8_7 rfl rfl ?_
      refine mJ_iconst (v := 1) dX8_isIn_54 rfl ?_
      refine mJ_ialdN dX8_isIn_55 rfl (j := 1) ⟨rfl, by decide, by decide⟩ ?_
      refine mJ_icmp_lt 90 dX8_isIn_56 rfl (fun c_56 => ?_) (fun c_56 => ?_)
      · refine mJ_iconst (v := 0) dX8_isIn_90 rfl ?_
        exact mJ_zret dX8_isIn_91 rfl (Or.inl rfl) (by first | exact z_t (by simp_all [p_in, q_sl]) | exact z_f (by simp_all [p_in, q_sl])) (rfl)
      · refine mJ_aload_n dX8_isIn_59 rfl ?_
        refine mJ_get dX8_isIn_60 f_X8_76 rfl rfl ?_
        refine mJ_aload_n dX8_isIn_63 rfl ?_
        refine mJ_iload_n dX8_isIn_64 rfl ?_
        refine mJ_iconst (v := 2) dX8_isIn_65 rfl ?_
        refine mJ_cV2i dX8_isIn_66 e_X8_ofHint n_X8_52 ⟨Nat.le_of_ble_eq_true rfl, Nat.le_of_ble_eq_true rfl⟩ rfl rfl (Nat.le_of_ble_eq_true rfl) (C_X8_ofHint (w := 2) hh (by decide)) ?_
        refine mJ_iadd dX8_isIn_69 ?_
        refine mJ_aload_n dX8_isIn_70 rfl ?_
        refine mJ_get dX8_isIn_71 f_X8_7 rfl rfl ?_
        refine mJ_iconst (v := 1) dX8_isIn_74 rfl ?_
        refine mJ_ialdN dX8_isIn_75 rfl (j := 1) ⟨rfl, by decide, by decide⟩ ?_
        refine mJ_aload_n dX8_isIn_76 rfl ?_
        refine mJ_get dX8_isIn_77 f_X8_7 rfl rfl ?_
        refine mJ_iconst (v := 3) dX8_isIn_80 rfl ?_
        refine mJ_ialdN dX8_isIn_81 rfl (j := 3) ⟨rfl, by decide, by decide⟩ ?_
        refine mJ_iadd dX8_isIn_82 ?_
        refine mJ_icmp_gt 90 dX8_isIn_83 rfl (fun c_83 => ?_) (fun c_83 => ?_)
        · refine mJ_iconst (v := 0) dX8_isIn_90 rfl ?_
          exact mJ_zret dX8_isIn_91 rfl (Or.inl rfl) (by first | exact z_t (by simp_all [p_in, q_sl]) | exact z_f (by simp_all [p_in, q_sl])) (rfl)
        · refine mJ_iconst (v := 1) dX8_isIn_86 rfl ?_
          refine mJ_goto 91 dX8_isIn_87 rfl ?_
          exact mJ_zret dX8_isIn_91 rfl (Or.inr rfl) (by first | exact z_t (by simp_all [p_in, q_sl]) | exact z_f (by simp_all [p_in, q_sl])) (rfl)
