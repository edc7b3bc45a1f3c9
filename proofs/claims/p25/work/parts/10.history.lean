/-! THE HISTORY: a ring of five copies of the state row -/
theorem mJ_heap {M : mM} {pc : Nat} {ls st : List Value} {h h' : List mC} {r : Option Value} {h2 : List mC} (e : h2 = h) (kk : mJ M pc ls st h2 r h') : mJ M pc ls st h r h' := e ▸ kk
def wW (W C : aF) (b k : Nat) : aF := fun j => if b ≤ j ∧ j < b + k then C (j - b) else W j
def wC (C W : aF) (b k : Nat) : aF := fun j => if j < k then W (b + j) else C j
theorem wW_step {W C : aF} {b k : Nat} (hk : k < 172) (hb : b + 172 ≤ 860) : rp 860 (wW W C b k) (nI b + nI k) (rg 172 C (nI k)) = wW W C b (k + 1) := by
  rw [nI_add, rp_in _ _ (by omega) (by omega), rg_in _ hk (by omega)]
  funext j
  unfold upd wW
  by_cases h : j = b + k
  · subst h
    rw [if_pos rfl, if_pos (by omega), Nat.add_sub_cancel_left]
  · rw [if_neg h]
    by_cases h2 : b ≤ j ∧ j < b + k
    · rw [if_pos h2, if_pos (by omega)]
    · rw [if_neg h2, if_neg (by omega)]
theorem wW_0 (W C : aF) (b : Nat) : wW W C b 0 = W := by
  funext j
  unfold wW
  rw [if_neg (by omega)]
theorem wC_step {W C : aF} {b k : Nat} (hk : k < 172) (hb : b + 172 ≤ 860) : rp 172 (wC C W b k) (nI k) (rg 860 W (nI b + nI k)) = wC C W b (k + 1) := by
  rw [nI_add, rp_in _ _ hk (by omega), rg_in _ (by omega) (by omega)]
  funext j
  unfold upd wC
  by_cases h : j = k
  · subst h
    rw [if_pos rfl, if_pos (by omega)]
  · rw [if_neg h]
    by_cases h2 : j < k
    · rw [if_pos h2, if_pos (by omega)]
    · rw [if_neg h2, if_neg (by omega)]
theorem wC_0 (C W : aF) (b : Nat) : wC C W b 0 = C := by
  funext j
  unfold wC
  rw [if_neg (by omega)]
theorem nI_r5 (x : Nat) (h : x < 1000) : nI x - nI x / 5 * 5 = nI (x % 5) := pk_rem (d := 5) (by omega) (by omega) (by omega)
def kH (W C : aF) (o n : Nat) : tH := if n = 5 then (wW W C (((o + 1) % 5 + 4) % 5 * 172) 172, nI ((o + 1) % 5), nI 5) else (wW W C ((o + n) % 5 * 172) 172, nI o, nI (n + 1))
set_option maxHeartbeats 4000000 in
set_option maxRecDepth 100000 in
theorem L_X5_copyTo {C : aF} {Sw : tS} {T1 : tT} {P1 : tP} {Od : tO} {T2 : tT} {P2 : tP} {W : aF} {o n : Int32} {b : Nat} (hb : b + 172 ≤ 860) : ∀ (m k : Nat), k + m = 172 → mJ k_X5_copyTo 2 [.ref 1, .ref 5, .int (nI b), .int (nI k)] [] (cH C (wW W C b k, o, n) Sw T1 P1 Od T2 P2) none (cH C (wW W C b 172, o, n) Sw T1 P1 Od T2 P2) := by
  intro m
  induction m with
  | zero =>
    intro k hk
    refine mJ_iload_n dX5_copyTo_2 rfl ?_
    refine mJ_sipush (v := 172) dX5_copyTo_3 rfl ?_
    refine mJ_icmp_ge 30 dX5_copyTo_6 rfl (fun c_6 => ?_) (fun c_6 => False.elim (by exact c_6 (nI_le (a := 172) (by omega) (by omega))))
    exact mJ_vret dX5_copyTo_30 rfl (rfl) (by rw [show k = 172 by omega])
  | succ m ih =>
    intro k hk
    refine mJ_iload_n dX5_copyTo_2 rfl ?_
    refine mJ_sipush (v := 172) dX5_copyTo_3 rfl ?_
    refine mJ_icmp_ge 30 dX5_copyTo_6 rfl (fun c_6 => False.elim (by exact nI_ge (b := 172) (show k < 172 by omega) (by omega) c_6)) (fun c_6 => ?_)
    refine mJ_aload_n dX5_copyTo_9 rfl ?_
    refine mJ_iload_n dX5_copyTo_10 rfl ?_
    refine mJ_iload_n dX5_copyTo_11 rfl ?_
    refine mJ_iadd dX5_copyTo_12 ?_
    refine mJ_aload_n dX5_copyTo_13 rfl ?_
    refine mJ_get dX5_copyTo_14 f_X5_14 rfl rfl ?_
    refine mJ_iload_n dX5_copyTo_17 rfl ?_
    refine mJ_cV1i dX5_copyTo_18 e_X3_get n_X5_24 ⟨Nat.le_of_ble_eq_true rfl, Nat.le_of_ble_eq_true rfl⟩ rfl rfl (Nat.le_of_ble_eq_true rfl) (C_X3_get rfl rfl (Nat.le_of_ble_eq_true rfl)) ?_
    refine mJ_cV2v dX5_copyTo_21 e_X3_put n_X5_20 ⟨Nat.le_of_ble_eq_true rfl, Nat.le_of_ble_eq_true rfl⟩ rfl rfl (Nat.le_of_ble_eq_true rfl) (C_put_6 (Hs := (_, o, n))) ?_
    refine mJ_iinc dX5_copyTo_24 rfl (Nat.le_of_ble_eq_true rfl) (v := nI (k + 1)) (nI_1 k) (ls2 := [_, _, _, _]) rfl ?_
    refine mJ_goto 2 dX5_copyTo_27 rfl ?_
    refine mJ_heap (h2 := (cH C (wW W C b (k + 1), o, n) Sw T1 P1 Od T2 P2)) (congrArg (fun z => (cH C (z, o, n) Sw T1 P1 Od T2 P2)) (wW_step (show k < 172 by omega) hb).symm) ?_
    exact ih (k + 1) (by omega)
set_option maxHeartbeats 4000000 in
set_option maxRecDepth 100000 in
theorem C_X5_copyTo {C : aF} {Sw : tS} {T1 : tT} {P1 : tP} {Od : tO} {T2 : tT} {P2 : tP} {W : aF} {o n : Int32} {b : Nat} (hb : b + 172 ≤ 860) : mCt k_X5_copyTo [.ref 1, .ref 5, .int (nI b)] (cH C (W, o, n) Sw T1 P1 Od T2 P2) none (cH C (wW W C b 172, o, n) Sw T1 P1 Od T2 P2) := by
  refine mCt_intro (plainFor_of_name rfl) (Nat.le_of_ble_eq_true rfl) (m_all rfl) (ls := [_, _, _, _]) rfl ?_
  refine mJ_iconst (v := 0) dX5_copyTo_0 rfl ?_
  refine mJ_istore_n dX5_copyTo_1 (Nat.le_of_ble_eq_true rfl) (ls2 := [_, _, _, _]) rfl ?_
  refine mJ_heap (h2 := (cH C (wW W C b 0, o, n) Sw T1 P1 Od T2 P2)) (by rw [wW_0]) ?_
  exact L_X5_copyTo hb 172 0 (by omega)
set_option maxHeartbeats 4000000 in
set_option maxRecDepth 100000 in
theorem L_X5_copyFrom {C : aF} {Sw : tS} {T1 : tT} {P1 : tP} {Od : tO} {T2 : tT} {P2 : tP} {W : aF} {o n : Int32} {b : Nat} (hb : b + 172 ≤ 860) : ∀ (m k : Nat), k + m = 172 → mJ k_X5_copyFrom 2 [.ref 1, .ref 5, .int (nI b), .int (nI k)] [] (cH (wC C W b k) (W, o, n) Sw T1 P1 Od T2 P2) none (cH (wC C W b 172) (W, o, n) Sw T1 P1 Od T2 P2) := by
  intro m
  induction m with
  | zero =>
    intro k hk
    refine mJ_iload_n dX5_copyFrom_2 rfl ?_
    refine mJ_sipush (v := 172) dX5_copyFrom_3 rfl ?_
    refine mJ_icmp_ge 30 dX5_copyFrom_6 rfl (fun c_6 => ?_) (fun c_6 => False.elim (by exact c_6 (nI_le (a := 172) (by omega) (by omega))))
    exact mJ_vret dX5_copyFrom_30 rfl (rfl) (by rw [show k = 172 by omega])
  | succ m ih =>
    intro k hk
    refine mJ_iload_n dX5_copyFrom_2 rfl ?_
    refine mJ_sipush (v := 172) dX5_copyFrom_3 rfl ?_
    refine mJ_icmp_ge 30 dX5_copyFrom_6 rfl (fun c_6 => False.elim (by exact nI_ge (b := 172) (show k < 172 by omega) (by omega) c_6)) (fun c_6 => ?_)
    refine mJ_aload_n dX5_copyFrom_9 rfl ?_
    refine mJ_get dX5_copyFrom_10 f_X5_14 rfl rfl ?_
    refine mJ_iload_n dX5_copyFrom_13 rfl ?_
    refine mJ_aload_n dX5_copyFrom_14 rfl ?_
    refine mJ_iload_n dX5_copyFrom_15 rfl ?_
    refine mJ_iload_n dX5_copyFrom_16 rfl ?_
    refine mJ_iadd dX5_copyFrom_17 ?_
    refine mJ_cV1i dX5_copyFrom_18 e_X3_get n_X5_24 ⟨Nat.le_of_ble_eq_true rfl, Nat.le_of_ble_eq_true rfl⟩ rfl rfl (Nat.le_of_ble_eq_true rfl) (C_X3_get rfl rfl (Nat.le_of_ble_eq_true rfl)) ?_
    refine mJ_cV2v dX5_copyFrom_21 e_X3_put n_X5_20 ⟨Nat.le_of_ble_eq_true rfl, Nat.le_of_ble_eq_true rfl⟩ rfl rfl (Nat.le_of_ble_eq_true rfl) (C_put_3) ?_
    refine mJ_iinc dX5_copyFrom_24 rfl (Nat.le_of_ble_eq_true rfl) (v := nI (k + 1)) (nI_1 k) (ls2 := [_, _, _, _]) rfl ?_
    refine mJ_goto 2 dX5_copyFrom_27 rfl ?_
    refine mJ_heap (h2 := (cH (wC C W b (k + 1)) (W, o, n) Sw T1 P1 Od T2 P2)) (congrArg (fun z => (cH (z) (W, o, n) Sw T1 P1 Od T2 P2)) (wC_step (show k < 172 by omega) hb).symm) ?_
    exact ih (k + 1) (by omega)
set_option maxHeartbeats 4000000 in
set_option maxRecDepth 100000 in
theorem C_X5_copyFrom {C : aF} {Sw : tS} {T1 : tT} {P1 : tP} {Od : tO} {T2 : tT} {P2 : tP} {W : aF} {o n : Int32} {b : Nat} (hb : b + 172 ≤ 860) : mCt k_X5_copyFrom [.ref 1, .ref 5, .int (nI b)] (cH C (W, o, n) Sw T1 P1 Od T2 P2) none (cH (wC C W b 172) (W, o, n) Sw T1 P1 Od T2 P2) := by
  refine mCt_intro (plainFor_of_name rfl) (Nat.le_of_ble_eq_true rfl) (m_all rfl) (ls := [_, _, _, _]) rfl ?_
  refine mJ_iconst (v := 0) dX5_copyFrom_0 rfl ?_
  refine mJ_istore_n dX5_copyFrom_1 (Nat.le_of_ble_eq_true rfl) (ls2 := [_, _, _, _]) rfl ?_
  refine mJ_heap (h2 := (cH (wC C W b 0) (W, o, n) Sw T1 P1 Od T2 P2)) (by rw [wC_0]) ?_
  exact L_X5_copyFrom hb 172 0 (by omega)
set_option maxHeartbeats 4000000 in
set_option maxRecDepth 100000 in
theorem C_X0_beginOf {C : aF} {Sw : tS} {T1 : tT} {P1 : tP} {Od : tO} {T2 : tT} {P2 : tP} {W : aF} {o n : Nat} {n2 : Int32} (ho : o < 5) (hn : n ≤ 5) : mCt k_X0_beginOf [.ref 4, .int (nI n)] (cH C (W, nI o, n2) Sw T1 P1 Od T2 P2) (some (.int (nI ((o + n) % 5 * 172)))) (cH C (W, nI o, n2) Sw T1 P1 Od T2 P2) := by
  refine mCt_intro (plainFor_of_name rfl) (Nat.le_of_ble_eq_true rfl) (m_all rfl) (ls := [_, _]) rfl ?_
  refine mJ_aload_n dX0_beginOf_0 rfl ?_
  refine mJ_get_4_1 dX0_beginOf_1 f_X0_24 ?_
  refine mJ_iload_n dX0_beginOf_4 rfl ?_
  refine mJ_iadd dX0_beginOf_5 ?_
  refine mJ_iconst (v := 5) dX0_beginOf_6 rfl ?_
  refine mJ_irem dX0_beginOf_7 (by decide) ?_
  refine mJ_sipush (v := 172) dX0_beginOf_8 rfl ?_
  refine mJ_imul dX0_beginOf_11 ?_
  exact mJ_iret dX0_beginOf_12 rfl (by rw [nI_add, nI_r5 _ (by omega)]; exact congrArg (fun z => some (Value.int z)) (pk_mul _ 172).symm) (rfl)
set_option maxHeartbeats 4000000 in
set_option maxRecDepth 100000 in
theorem C_X0_keep {C : aF} {Sw : tS} {T1 : tT} {P1 : tP} {Od : tO} {T2 : tT} {P2 : tP} {W : aF} {o n : Nat} (ho : o < 5) (hn : n ≤ 5) : mCt k_X0_keep [.ref 4, .ref 1] (cH C (W, nI o, nI n) Sw T1 P1 Od T2 P2) none (cH C (kH W C o n) Sw T1 P1 Od T2 P2) := by
  refine mCt_intro (plainFor_of_name rfl) (Nat.le_of_ble_eq_true rfl) (m_all rfl) (ls := [_, _]) rfl ?_
  refine mJ_aload_n dX0_keep_0 rfl ?_
  refine mJ_get_4_2 dX0_keep_1 f_X0_20 ?_
  refine mJ_iconst (v := 5) dX0_keep_4 rfl ?_
  refine mJ_icmp_ne 30 dX0_keep_5 rfl (fun c_5 => ?_) (fun c_5 => ?_)
  · refine mJ_aload_n dX0_keep_30 rfl ?_
    refine mJ_aload_n dX0_keep_31 rfl ?_
    refine mJ_get dX0_keep_32 f_X0_14 rfl rfl ?_
    refine mJ_aload_n dX0_keep_35 rfl ?_
    refine mJ_aload_n dX0_keep_36 rfl ?_
    refine mJ_get_4_2 dX0_keep_37 f_X0_20 ?_
    refine mJ_cV1i dX0_keep_40 e_X0_beginOf n_X0_27 ⟨Nat.le_of_ble_eq_true rfl, Nat.le_of_ble_eq_true rfl⟩ rfl rfl (Nat.le_of_ble_eq_true rfl) (C_X0_beginOf ho (n := n) hn) ?_
    refine mJ_cV2v dX0_keep_43 e_X5_copyTo n_X0_31 ⟨Nat.le_of_ble_eq_true rfl, Nat.le_of_ble_eq_true rfl⟩ rfl rfl (Nat.le_of_ble_eq_true rfl) (C_X5_copyTo (by omega)) ?_
    refine mJ_aload_n dX0_keep_46 rfl ?_
    refine mJ_dup dX0_keep_47 rfl ?_
    refine mJ_get_4_2 dX0_keep_48 f_X0_20 ?_
    refine mJ_iconst (v := 1) dX0_keep_51 rfl ?_
    refine mJ_iadd dX0_keep_52 ?_
    refine mJ_top (show nI n + 1 = nI (n + 1) from nI_1 n) ?_
    refine mJ_put_4_2 dX0_keep_53 p_X0_20 ?_
    exact mJ_vret dX0_keep_56 rfl (rfl) (by rw [show kH W C o n = _ from if_neg (fun q => c_5 (by rw [q]; rfl))])
  · refine mJ_aload_n dX0_keep_8 rfl ?_
    refine mJ_aload_n dX0_keep_9 rfl ?_
    refine mJ_get_4_1 dX0_keep_10 f_X0_24 ?_
    refine mJ_iconst (v := 1) dX0_keep_13 rfl ?_
    refine mJ_iadd dX0_keep_14 ?_
    refine mJ_iconst (v := 5) dX0_keep_15 rfl ?_
    refine mJ_irem dX0_keep_16 (by decide) ?_
    refine mJ_top (show nI o + 1 - (nI o + 1) / 5 * 5 = nI ((o + 1) % 5) by rw [nI_1]; exact nI_r5 _ (by omega)) ?_
    refine mJ_put_4_1 dX0_keep_17 p_X0_24 ?_
    refine mJ_aload_n dX0_keep_20 rfl ?_
    refine mJ_dup dX0_keep_21 rfl ?_
    refine mJ_get_4_2 dX0_keep_22 f_X0_20 ?_
    refine mJ_iconst (v := 1) dX0_keep_25 rfl ?_
    refine mJ_isub dX0_keep_26 ?_
    refine mJ_top (show nI n - 1 = nI 4 by rw [c_5]; decide) ?_
    refine mJ_put_4_2 dX0_keep_27 p_X0_20 ?_
    refine mJ_aload_n dX0_keep_30 rfl ?_
    refine mJ_aload_n dX0_keep_31 rfl ?_
    refine mJ_get dX0_keep_32 f_X0_14 rfl rfl ?_
    refine mJ_aload_n dX0_keep_35 rfl ?_
    refine mJ_aload_n dX0_keep_36 rfl ?_
    refine mJ_get_4_2 dX0_keep_37 f_X0_20 ?_
    refine mJ_cV1i dX0_keep_40 e_X0_beginOf n_X0_27 ⟨Nat.le_of_ble_eq_true rfl, Nat.le_of_ble_eq_true rfl⟩ rfl rfl (Nat.le_of_ble_eq_true rfl) (C_X0_beginOf (Nat.mod_lt _ (by omega)) (n := 4) (by omega)) ?_
    refine mJ_cV2v dX0_keep_43 e_X5_copyTo n_X0_31 ⟨Nat.le_of_ble_eq_true rfl, Nat.le_of_ble_eq_true rfl⟩ rfl rfl (Nat.le_of_ble_eq_true rfl) (C_X5_copyTo (by omega)) ?_
    refine mJ_aload_n dX0_keep_46 rfl ?_
    refine mJ_dup dX0_keep_47 rfl ?_
    refine mJ_get_4_2 dX0_keep_48 f_X0_20 ?_
    refine mJ_iconst (v := 1) dX0_keep_51 rfl ?_
    refine mJ_iadd dX0_keep_52 ?_
    refine mJ_top (show nI 4 + 1 = nI 5 from nI_1 4) ?_
    refine mJ_put_4_2 dX0_keep_53 p_X0_20 ?_
    exact mJ_vret dX0_keep_56 rfl (rfl) (by rw [show kH W C o n = _ from if_pos ((nI_eq (b := 5) (by omega) (by omega)).mp c_5)])
set_option maxHeartbeats 4000000 in
set_option maxRecDepth 100000 in
theorem C_X0_restore {C : aF} {Sw : tS} {T1 : tT} {P1 : tP} {Od : tO} {T2 : tT} {P2 : tP} {W : aF} {o n : Nat} (ho : o < 5) (hn : n < 5) : mCt k_X0_restore [.ref 4, .ref 1] (cH C (W, nI o, nI (n + 1)) Sw T1 P1 Od T2 P2) none (cH (wC C W ((o + n) % 5 * 172) 172) (W, nI o, nI n) Sw T1 P1 Od T2 P2) := by
  refine mCt_intro (plainFor_of_name rfl) (Nat.le_of_ble_eq_true rfl) (m_all rfl) (ls := [_, _]) rfl ?_
  refine mJ_aload_n dX0_restore_0 rfl ?_
  refine mJ_get_4_2 dX0_restore_1 f_X0_20 ?_
  refine mJ_if_le 33 dX0_restore_4 rfl (fun c_4 => False.elim (by exact nI_nle (n := n + 1) (by omega) (by omega) c_4)) (fun c_4 => ?_)
  refine mJ_aload_n dX0_restore_7 rfl ?_
  refine mJ_dup dX0_restore_8 rfl ?_
  refine mJ_get_4_2 dX0_restore_9 f_X0_20 ?_
  refine mJ_iconst (v := 1) dX0_restore_12 rfl ?_
  refine mJ_isub dX0_restore_13 ?_
  refine mJ_top (nI_pred n) ?_
  refine mJ_put_4_2 dX0_restore_14 p_X0_20 ?_
  refine mJ_aload_n dX0_restore_17 rfl ?_
  refine mJ_aload_n dX0_restore_18 rfl ?_
  refine mJ_get dX0_restore_19 f_X0_14 rfl rfl ?_
  refine mJ_aload_n dX0_restore_22 rfl ?_
  refine mJ_aload_n dX0_restore_23 rfl ?_
  refine mJ_get_4_2 dX0_restore_24 f_X0_20 ?_
  refine mJ_cV1i dX0_restore_27 e_X0_beginOf n_X0_27 ⟨Nat.le_of_ble_eq_true rfl, Nat.le_of_ble_eq_true rfl⟩ rfl rfl (Nat.le_of_ble_eq_true rfl) (C_X0_beginOf ho (n := n) (by omega)) ?_
  refine mJ_cV2v dX0_restore_30 e_X5_copyFrom n_X0_37 ⟨Nat.le_of_ble_eq_true rfl, Nat.le_of_ble_eq_true rfl⟩ rfl rfl (Nat.le_of_ble_eq_true rfl) (C_X5_copyFrom (by omega)) ?_
  exact mJ_vret dX0_restore_33 rfl (rfl) (rfl)
