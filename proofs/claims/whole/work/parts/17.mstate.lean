/-! THE REFERENCE: history, opening and closing, settling; small public methods -/
def sW (W : aF) (k : Nat) : aF := fun j => if j < k then W (j + 172) else W j
theorem sW_0 (W : aF) : sW W 0 = W := by
  funext j
  unfold sW
  rw [if_neg (by omega)]
theorem sW_s (W : aF) (k : Nat) : upd (sW W k) k (sW W k (k + 172)) = sW W (k + 1) := by
  funext j
  unfold upd
  by_cases h : j = k
  · subst h
    rw [if_pos rfl]
    unfold sW
    rw [if_neg (by omega), if_pos (by omega)]
  · rw [if_neg h]
    unfold sW
    by_cases h2 : j < k
    · rw [if_pos h2, if_pos (by omega)]
    · rw [if_neg h2, if_neg (by omega)]
theorem wW_s (W C : aF) (b k : Nat) : upd (wW W C b k) (b + k) (C k) = wW W C b (k + 1) := by
  funext j
  unfold upd
  by_cases h : j = b + k
  · subst h
    rw [if_pos rfl]
    unfold wW
    rw [if_pos (by omega), Nat.add_sub_cancel_left]
  · rw [if_neg h]
    unfold wW
    by_cases h2 : b ≤ j ∧ j < b + k
    · rw [if_pos h2, if_pos (by omega)]
    · rw [if_neg h2, if_neg (by omega)]
theorem wC_s (C W : aF) (b k : Nat) : upd (wC C W b k) k (W (b + k)) = wC C W b (k + 1) := by
  funext j
  unfold upd
  by_cases h : j = k
  · subst h
    rw [if_pos rfl]
    unfold wC
    rw [if_pos (by omega)]
  · rw [if_neg h]
    unfold wC
    by_cases h2 : j < k
    · rw [if_pos h2, if_pos (by omega)]
    · rw [if_neg h2, if_neg (by omega)]
def mR (was d : aF) (n : Nat) : aF := if n = 5 then wW (sW was 688) d 688 172 else wW was d (172 * n) 172
def mN (n : Nat) : Nat := if n = 5 then 5 else n + 1
set_option maxHeartbeats 4000000 in
set_option maxRecDepth 100000 in
theorem L_X8_records_2 {d was text ord why son tri : aF} {typ at_ sig fst snd rea lef top shf arr goo shn trs : Int32} {n b : Nat} (hb : b = 172 * n) (hn : n ≤ 4) : ∀ (m k : Nat), k + m = 172 → mJ k_X8_records 51 [.ref 0, .int (nI k)] [] (mH d (wW was d b k) (nI n) text typ at_ sig fst snd rea lef top shf arr goo ord why son shn tri trs) none (mH d (wW was d b 172) (nI (n + 1)) text typ at_ sig fst snd rea lef top shf arr goo ord why son shn tri trs) := by
  intro m
  induction m with
  | zero =>
    intro k hk
    refine mJ_iload_n dX8_records_51 rfl ?_
    refine mJ_sipush (v := 172) dX8_records_52 rfl ?_
    refine mJ_icmp_ge 85 dX8_records_55 rfl (fun c_55 => ?_) (fun c_55 => False.elim (by exact c_55 (nI_le (a := 172) (by omega) (by omega))))
    refine mJ_aload_n dX8_records_85 rfl ?_
    refine mJ_dup dX8_records_86 rfl ?_
    refine mJ_get dX8_records_87 f_X8_36 rfl rfl ?_
    refine mJ_iconst (v := 1) dX8_records_90 rfl ?_
    refine mJ_iadd dX8_records_91 ?_
    refine mJ_top (nI_1 n) ?_
    refine mJ_put dX8_records_92 p_X8_36 rfl (Nat.le_of_ble_eq_true rfl) rfl rfl (h2 := mH _ _ _ _ _ _ _ _ _ _ _ _ _ _ _ _ _ _ _ _ _) rfl ?_
    exact mJ_vret dX8_records_95 rfl (rfl) (by rw [show k = 172 by omega])
  | succ m ih =>
    intro k hk
    refine mJ_iload_n dX8_records_51 rfl ?_
    refine mJ_sipush (v := 172) dX8_records_52 rfl ?_
    refine mJ_icmp_ge 85 dX8_records_55 rfl (fun c_55 => False.elim (by exact nI_ge (b := 172) (show k < 172 by omega) (by omega) c_55)) (fun c_55 => ?_)
    refine mJ_aload_n dX8_records_58 rfl ?_
    refine mJ_get dX8_records_59 f_X8_13 rfl rfl ?_
    refine mJ_sipush (v := 172) dX8_records_62 rfl ?_
    refine mJ_aload_n dX8_records_65 rfl ?_
    refine mJ_get dX8_records_66 f_X8_36 rfl rfl ?_
    refine mJ_imul dX8_records_69 ?_
    refine mJ_iload_n dX8_records_70 rfl ?_
    refine mJ_iadd dX8_records_71 ?_
    refine mJ_aload_n dX8_records_72 rfl ?_
    refine mJ_get dX8_records_73 f_X8_7 rfl rfl ?_
    refine mJ_iload_n dX8_records_76 rfl ?_
    refine mJ_ialdN dX8_records_77 rfl (j := k) ⟨rfl, by omega, by omega⟩ ?_
    refine mJ_iastN dX8_records_78 rfl (j := b + k) ⟨show (172 : Int32) * nI n + nI k = nI (b + k) by rw [hb, ← nI_add, ← pk_mul]; rfl, by omega, by decide⟩ (h2 := mH _ _ _ _ _ _ _ _ _ _ _ _ _ _ _ _ _ _ _ _ _) rfl ?_
    refine mJ_iinc dX8_records_79 rfl (Nat.le_of_ble_eq_true rfl) (v := nI (k + 1)) (nI_1 k) (ls2 := [_, _]) rfl ?_
    refine mJ_goto 51 dX8_records_82 rfl ?_
    rw [wW_s]
    exact ih (k + 1) (by omega)
set_option maxHeartbeats 4000000 in
set_option maxRecDepth 100000 in
theorem L_X8_records_1 {d was text ord why son tri : aF} {typ at_ sig fst snd rea lef top shf arr goo shn trs : Int32} : ∀ (m k : Nat), k + m = 688 → mJ k_X8_records 10 [.ref 0, .int (nI k)] [] (mH d (sW was k) (nI 5) text typ at_ sig fst snd rea lef top shf arr goo ord why son shn tri trs) none (mH d (wW (sW was 688) d 688 172) (nI 5) text typ at_ sig fst snd rea lef top shf arr goo ord why son shn tri trs) := by
  intro m
  induction m with
  | zero =>
    intro k hk
    refine mJ_iload_n dX8_records_10 rfl ?_
    refine mJ_sipush (v := 688) dX8_records_11 rfl ?_
    refine mJ_icmp_ge 39 dX8_records_14 rfl (fun c_14 => ?_) (fun c_14 => False.elim (by exact c_14 (nI_le (a := 688) (by omega) (by omega))))
    refine mJ_aload_n dX8_records_39 rfl ?_
    refine mJ_dup dX8_records_40 rfl ?_
    refine mJ_get dX8_records_41 f_X8_36 rfl rfl ?_
    refine mJ_iconst (v := 1) dX8_records_44 rfl ?_
    refine mJ_isub dX8_records_45 ?_
    refine mJ_top (nI_pred 4) ?_
    refine mJ_put dX8_records_46 p_X8_36 rfl (Nat.le_of_ble_eq_true rfl) rfl rfl (h2 := mH _ _ _ _ _ _ _ _ _ _ _ _ _ _ _ _ _ _ _ _ _) rfl ?_
    refine mJ_iconst (v := 0) dX8_records_49 rfl ?_
    refine mJ_istore_n dX8_records_50 (Nat.le_of_ble_eq_true rfl) (ls2 := [_, _]) rfl ?_
    rw [show k = 688 by omega]
    have h0 := L_X8_records_2 (d := d) (was := sW was 688) (text := text) (typ := typ) (at_ := at_) (sig := sig) (fst := fst) (snd := snd) (rea := rea) (lef := lef) (top := top) (shf := shf) (arr := arr) (goo := goo) (ord := ord) (why := why) (son := son) (shn := shn) (tri := tri) (trs := trs) (n := 4) (b := 688) (by omega) (by omega) 172 0 (by omega)
    rw [wW_0] at h0
    exact h0
  | succ m ih =>
    intro k hk
    refine mJ_iload_n dX8_records_10 rfl ?_
    refine mJ_sipush (v := 688) dX8_records_11 rfl ?_
    refine mJ_icmp_ge 39 dX8_records_14 rfl (fun c_14 => False.elim (by exact nI_ge (b := 688) (show k < 688 by omega) (by omega) c_14)) (fun c_14 => ?_)
    refine mJ_aload_n dX8_records_17 rfl ?_
    refine mJ_get dX8_records_18 f_X8_13 rfl rfl ?_
    refine mJ_iload_n dX8_records_21 rfl ?_
    refine mJ_aload_n dX8_records_22 rfl ?_
    refine mJ_get dX8_records_23 f_X8_13 rfl rfl ?_
    refine mJ_iload_n dX8_records_26 rfl ?_
    refine mJ_sipush (v := 172) dX8_records_27 rfl ?_
    refine mJ_iadd dX8_records_30 ?_
    refine mJ_ialdN dX8_records_31 rfl (j := k + 172) ⟨by simp only [← nI_add]; rfl, by omega, by decide⟩ ?_
    refine mJ_iastN dX8_records_32 rfl (j := k) ⟨rfl, by omega, by omega⟩ (h2 := mH _ _ _ _ _ _ _ _ _ _ _ _ _ _ _ _ _ _ _ _ _) rfl ?_
    refine mJ_iinc dX8_records_33 rfl (Nat.le_of_ble_eq_true rfl) (v := nI (k + 1)) (nI_1 k) (ls2 := [_, _]) rfl ?_
    refine mJ_goto 10 dX8_records_36 rfl ?_
    rw [sW_s]
    exact ih (k + 1) (by omega)
set_option maxHeartbeats 4000000 in
set_option maxRecDepth 100000 in
theorem C_X8_records {d was text ord why son tri : aF} {typ at_ sig fst snd rea lef top shf arr goo shn trs : Int32} {n : Nat} (hn : n ≤ 5) : mCt k_X8_records [.ref 0] (mH d was (nI n) text typ at_ sig fst snd rea lef top shf arr goo ord why son shn tri trs) none (mH d (mR was d n) (nI (mN n)) text typ at_ sig fst snd rea lef top shf arr goo ord why son shn tri trs) := by
  by_cases h5 : n = 5
  · refine mCt_intro (plainFor_of_name rfl) (Nat.le_of_ble_eq_true rfl) (m_all rfl) (ls := [_, _]) rfl ?_
    refine mJ_aload_n dX8_records_0 rfl ?_
    refine mJ_get dX8_records_1 f_X8_36 rfl rfl ?_
    refine mJ_iconst (v := 5) dX8_records_4 rfl ?_
    refine mJ_icmp_ne 49 dX8_records_5 rfl (fun c_5 => False.elim (by exact c_5 (by rw [h5]; rfl))) (fun c_5 => ?_)
    refine mJ_iconst (v := 0) dX8_records_8 rfl ?_
    refine mJ_istore_n dX8_records_9 (Nat.le_of_ble_eq_true rfl) (ls2 := [_, _]) rfl ?_
    rw [show mR was d n = wW (sW was 688) d 688 172 from if_pos h5, show mN n = 5 from if_pos h5, ← sW_0 was, h5]
    have h0 := L_X8_records_1 (d := d) (text := text) (typ := typ) (at_ := at_) (sig := sig) (fst := fst) (snd := snd) (rea := rea) (lef := lef) (top := top) (shf := shf) (arr := arr) (goo := goo) (ord := ord) (why := why) (son := son) (shn := shn) (tri := tri) (trs := trs) (was := was) 688 0 (by omega)
    rw [sW_0] at h0 ⊢
    exact h0
  · refine mCt_intro (plainFor_of_name rfl) (Nat.le_of_ble_eq_true rfl) (m_all rfl) (ls := [_, _]) rfl ?_
    refine mJ_aload_n dX8_records_0 rfl ?_
    refine mJ_get dX8_records_1 f_X8_36 rfl rfl ?_
    refine mJ_iconst (v := 5) dX8_records_4 rfl ?_
    refine mJ_icmp_ne 49 dX8_records_5 rfl (fun c_5 => ?_) (fun c_5 => False.elim (by exact h5 ((nI_eq (b := 5) (by omega) (by omega)).mp c_5)))
    refine mJ_iconst (v := 0) dX8_records_49 rfl ?_
    refine mJ_istore_n dX8_records_50 (Nat.le_of_ble_eq_true rfl) (ls2 := [_, _]) rfl ?_
    rw [show mR was d n = wW was d (172 * n) 172 from if_neg h5, show mN n = n + 1 from if_neg h5]
    have h0 := L_X8_records_2 (d := d) (text := text) (typ := typ) (at_ := at_) (sig := sig) (fst := fst) (snd := snd) (rea := rea) (lef := lef) (top := top) (shf := shf) (arr := arr) (goo := goo) (ord := ord) (why := why) (son := son) (shn := shn) (tri := tri) (trs := trs) (was := was) (n := n) (b := 172 * n) rfl (by omega) 172 0 (by omega)
    rw [wW_0] at h0
    exact h0
