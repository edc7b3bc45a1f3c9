/-! THE REFERENCE: counts -/
set_option maxHeartbeats 4000000 in
set_option maxRecDepth 100000 in
theorem L_X8_covered_0 {d was text ord why son tri : aF} {sta typ at_ sig fst snd rea lef top shf arr goo shn trs : Int32} {nH : Nat} (hH : d 50 = nI nH) (hl : nH ≤ 12) : ∀ (m k : Nat), k + m = nH → mJ k_X8_covered 4 [.ref 0, .int 0, .int (cS (fun k => ¬ son k = -1) (fun k => dH d k 1 * dH d k 2) k), .int (nI k)] [] (mH d was sta text typ at_ sig fst snd rea lef top shf arr goo ord why son shn tri trs) (some (.int (cS (fun k => ¬ son k = -1) (fun k => dH d k 1 * dH d k 2) nH))) (mH d was sta text typ at_ sig fst snd rea lef top shf arr goo ord why son shn tri trs) := by
  intro m
  induction m with
  | zero =>
    intro k hk
    refine mJ_iload_n dX8_covered_4 rfl ?_
    refine mJ_aload_n dX8_covered_5 rfl ?_
    refine mJ_get dX8_covered_6 f_X8_7 rfl rfl ?_
    refine mJ_bipush (v := 50) dX8_covered_9 rfl ?_
    refine mJ_ialdN dX8_covered_11 rfl (j := 50) ⟨rfl, by decide, by decide⟩ ?_
    refine mJ_icmp_ge 59 dX8_covered_12 rfl (fun c_12 => ?_) (fun c_12 => False.elim (by exact c_12 (by rw [hH, show k = nH by omega]; exact Int32.le_refl _)))
    refine mJ_iload_n dX8_covered_59 rfl ?_
    exact mJ_iret dX8_covered_60 rfl (by rw [show k = nH by omega]) (rfl)
  | succ m ih =>
    intro k hk
    refine mJ_iload_n dX8_covered_4 rfl ?_
    refine mJ_aload_n dX8_covered_5 rfl ?_
    refine mJ_get dX8_covered_6 f_X8_7 rfl rfl ?_
    refine mJ_bipush (v := 50) dX8_covered_9 rfl ?_
    refine mJ_ialdN dX8_covered_11 rfl (j := 50) ⟨rfl, by decide, by decide⟩ ?_
    refine mJ_icmp_ge 59 dX8_covered_12 rfl (fun c_12 => False.elim (by rw [hH] at c_12; exact nI_ge (show k < nH by omega) (by omega) c_12)) (fun c_12 => ?_)
    refine mJ_iload_n dX8_covered_15 rfl ?_
    refine mJ_aload_n dX8_covered_16 rfl ?_
    refine mJ_get dX8_covered_17 f_X8_26 rfl rfl ?_
    refine mJ_iload_n dX8_covered_20 rfl ?_
    refine mJ_ialdN dX8_covered_21 rfl (j := k) ⟨rfl, by omega, by omega⟩ ?_
    refine mJ_iconst (v := (-1)) dX8_covered_22 rfl ?_
    refine mJ_icmp_ne 30 dX8_covered_23 rfl (fun c_23 => ?_) (fun c_23 => ?_)
    · refine mJ_iload_n dX8_covered_30 rfl ?_
      refine mJ_if_eq 38 dX8_covered_31 rfl (fun _ => ?_) (fun c => absurd c (by decide))
      refine mJ_aload_n dX8_covered_38 rfl ?_
      refine mJ_iload_n dX8_covered_39 rfl ?_
      refine mJ_iconst (v := 1) dX8_covered_40 rfl ?_
      refine mJ_cV2i dX8_covered_41 e_X8_ofHint n_X8_52 ⟨Nat.le_of_ble_eq_true rfl, Nat.le_of_ble_eq_true rfl⟩ rfl rfl (Nat.le_of_ble_eq_true rfl) (C_X8_ofHint (w := 1) (show k < 12 by omega) (by decide)) ?_
      refine mJ_aload_n dX8_covered_44 rfl ?_
      refine mJ_iload_n dX8_covered_45 rfl ?_
      refine mJ_iconst (v := 2) dX8_covered_46 rfl ?_
      refine mJ_cV2i dX8_covered_47 e_X8_ofHint n_X8_52 ⟨Nat.le_of_ble_eq_true rfl, Nat.le_of_ble_eq_true rfl⟩ rfl rfl (Nat.le_of_ble_eq_true rfl) (C_X8_ofHint (w := 2) (show k < 12 by omega) (by decide)) ?_
      refine mJ_imul dX8_covered_50 ?_
      refine mJ_iadd dX8_covered_51 ?_
      refine mJ_istore_n dX8_covered_52 (Nat.le_of_ble_eq_true rfl) (ls2 := [_, _, _, _]) rfl ?_
      refine mJ_iinc dX8_covered_53 rfl (Nat.le_of_ble_eq_true rfl) (v := nI (k + 1)) (nI_1 k) (ls2 := [_, _, _, _]) rfl ?_
      refine mJ_goto 4 dX8_covered_56 rfl ?_
      rw [show (cS (fun k => ¬ son k = -1) (fun k => dH d k 1 * dH d k 2) k) + dH d k 1 * dH d k 2 = (cS (fun k => ¬ son k = -1) (fun k => dH d k 1 * dH d k 2) (k + 1)) from (iif_t c_23).symm]
      exact ih (k + 1) (by omega)
    · refine mJ_iconst (v := 0) dX8_covered_26 rfl ?_
      refine mJ_goto 51 dX8_covered_27 rfl ?_
      refine mJ_iadd dX8_covered_51 ?_
      refine mJ_top (Int32.add_zero _) ?_
      refine mJ_istore_n dX8_covered_52 (Nat.le_of_ble_eq_true rfl) (ls2 := [_, _, _, _]) rfl ?_
      refine mJ_iinc dX8_covered_53 rfl (Nat.le_of_ble_eq_true rfl) (v := nI (k + 1)) (nI_1 k) (ls2 := [_, _, _, _]) rfl ?_
      refine mJ_goto 4 dX8_covered_56 rfl ?_
      rw [show (cS (fun k => ¬ son k = -1) (fun k => dH d k 1 * dH d k 2) k) = (cS (fun k => ¬ son k = -1) (fun k => dH d k 1 * dH d k 2) (k + 1)) from (iif_f (fun z => z c_23)).symm]
      exact ih (k + 1) (by omega)
set_option maxHeartbeats 4000000 in
set_option maxRecDepth 100000 in
theorem C_X8_covered_0 {d was text ord why son tri : aF} {sta typ at_ sig fst snd rea lef top shf arr goo shn trs : Int32} {nH : Nat} (hH : d 50 = nI nH) (hl : nH ≤ 12) : mCt k_X8_covered [.ref 0, .int 0] (mH d was sta text typ at_ sig fst snd rea lef top shf arr goo ord why son shn tri trs) (some (.int (cS (fun k => ¬ son k = -1) (fun k => dH d k 1 * dH d k 2) nH))) (mH d was sta text typ at_ sig fst snd rea lef top shf arr goo ord why son shn tri trs) := by
  refine mCt_intro (plainFor_of_name rfl) (Nat.le_of_ble_eq_true rfl) (m_all rfl) (ls := [_, _, _, _]) rfl ?_
  refine mJ_iconst (v := 0) dX8_covered_0 rfl ?_
  refine mJ_istore_n dX8_covered_1 (Nat.le_of_ble_eq_true rfl) (ls2 := [_, _, _, _]) rfl ?_
  refine mJ_iconst (v := 0) dX8_covered_2 rfl ?_
  refine mJ_istore_n dX8_covered_3 (Nat.le_of_ble_eq_true rfl) (ls2 := [_, _, _, _]) rfl ?_
  exact L_X8_covered_0 hH hl nH 0 (by omega)
set_option maxHeartbeats 4000000 in
set_option maxRecDepth 100000 in
theorem L_X8_covered_1 {d was text ord why son tri : aF} {sta typ at_ sig fst snd rea lef top shf arr goo shn trs : Int32} {nH : Nat} (hH : d 50 = nI nH) (hl : nH ≤ 12) : ∀ (m k : Nat), k + m = nH → mJ k_X8_covered 4 [.ref 0, .int 1, .int (cP (fun k => ¬ son k = -1) k), .int (nI k)] [] (mH d was sta text typ at_ sig fst snd rea lef top shf arr goo ord why son shn tri trs) (some (.int (cP (fun k => ¬ son k = -1) nH))) (mH d was sta text typ at_ sig fst snd rea lef top shf arr goo ord why son shn tri trs) := by
  intro m
  induction m with
  | zero =>
    intro k hk
    refine mJ_iload_n dX8_covered_4 rfl ?_
    refine mJ_aload_n dX8_covered_5 rfl ?_
    refine mJ_get dX8_covered_6 f_X8_7 rfl rfl ?_
    refine mJ_bipush (v := 50) dX8_covered_9 rfl ?_
    refine mJ_ialdN dX8_covered_11 rfl (j := 50) ⟨rfl, by decide, by decide⟩ ?_
    refine mJ_icmp_ge 59 dX8_covered_12 rfl (fun c_12 => ?_) (fun c_12 => False.elim (by exact c_12 (by rw [hH, show k = nH by omega]; exact Int32.le_refl _)))
    refine mJ_iload_n dX8_covered_59 rfl ?_
    exact mJ_iret dX8_covered_60 rfl (by rw [show k = nH by omega]) (rfl)
  | succ m ih =>
    intro k hk
    refine mJ_iload_n dX8_covered_4 rfl ?_
    refine mJ_aload_n dX8_covered_5 rfl ?_
    refine mJ_get dX8_covered_6 f_X8_7 rfl rfl ?_
    refine mJ_bipush (v := 50) dX8_covered_9 rfl ?_
    refine mJ_ialdN dX8_covered_11 rfl (j := 50) ⟨rfl, by decide, by decide⟩ ?_
    refine mJ_icmp_ge 59 dX8_covered_12 rfl (fun c_12 => False.elim (by rw [hH] at c_12; exact nI_ge (show k < nH by omega) (by omega) c_12)) (fun c_12 => ?_)
    refine mJ_iload_n dX8_covered_15 rfl ?_
    refine mJ_aload_n dX8_covered_16 rfl ?_
    refine mJ_get dX8_covered_17 f_X8_26 rfl rfl ?_
    refine mJ_iload_n dX8_covered_20 rfl ?_
    refine mJ_ialdN dX8_covered_21 rfl (j := k) ⟨rfl, by omega, by omega⟩ ?_
    refine mJ_iconst (v := (-1)) dX8_covered_22 rfl ?_
    refine mJ_icmp_ne 30 dX8_covered_23 rfl (fun c_23 => ?_) (fun c_23 => ?_)
    · refine mJ_iload_n dX8_covered_30 rfl ?_
      refine mJ_if_eq 38 dX8_covered_31 rfl (fun c => absurd c (by decide)) (fun _ => ?_)
      refine mJ_iconst (v := 1) dX8_covered_34 rfl ?_
      refine mJ_goto 51 dX8_covered_35 rfl ?_
      refine mJ_iadd dX8_covered_51 ?_
      refine mJ_istore_n dX8_covered_52 (Nat.le_of_ble_eq_true rfl) (ls2 := [_, _, _, _]) rfl ?_
      refine mJ_iinc dX8_covered_53 rfl (Nat.le_of_ble_eq_true rfl) (v := nI (k + 1)) (nI_1 k) (ls2 := [_, _, _, _]) rfl ?_
      refine mJ_goto 4 dX8_covered_56 rfl ?_
      rw [show (cP (fun k => ¬ son k = -1) k) + 1 = (cP (fun k => ¬ son k = -1) (k + 1)) from (iif_t c_23).symm]
      exact ih (k + 1) (by omega)
    · refine mJ_iconst (v := 0) dX8_covered_26 rfl ?_
      refine mJ_goto 51 dX8_covered_27 rfl ?_
      refine mJ_iadd dX8_covered_51 ?_
      refine mJ_top (Int32.add_zero _) ?_
      refine mJ_istore_n dX8_covered_52 (Nat.le_of_ble_eq_true rfl) (ls2 := [_, _, _, _]) rfl ?_
      refine mJ_iinc dX8_covered_53 rfl (Nat.le_of_ble_eq_true rfl) (v := nI (k + 1)) (nI_1 k) (ls2 := [_, _, _, _]) rfl ?_
      refine mJ_goto 4 dX8_covered_56 rfl ?_
      rw [show (cP (fun k => ¬ son k = -1) k) = (cP (fun k => ¬ son k = -1) (k + 1)) from (iif_f (fun z => z c_23)).symm]
      exact ih (k + 1) (by omega)
set_option maxHeartbeats 4000000 in
set_option maxRecDepth 100000 in
theorem C_X8_covered_1 {d was text ord why son tri : aF} {sta typ at_ sig fst snd rea lef top shf arr goo shn trs : Int32} {nH : Nat} (hH : d 50 = nI nH) (hl : nH ≤ 12) : mCt k_X8_covered [.ref 0, .int 1] (mH d was sta text typ at_ sig fst snd rea lef top shf arr goo ord why son shn tri trs) (some (.int (cP (fun k => ¬ son k = -1) nH))) (mH d was sta text typ at_ sig fst snd rea lef top shf arr goo ord why son shn tri trs) := by
  refine mCt_intro (plainFor_of_name rfl) (Nat.le_of_ble_eq_true rfl) (m_all rfl) (ls := [_, _, _, _]) rfl ?_
  refine mJ_iconst (v := 0) dX8_covered_0 rfl ?_
  refine mJ_istore_n dX8_covered_1 (Nat.le_of_ble_eq_true rfl) (ls2 := [_, _, _, _]) rfl ?_
  refine mJ_iconst (v := 0) dX8_covered_2 rfl ?_
  refine mJ_istore_n dX8_covered_3 (Nat.le_of_ble_eq_true rfl) (ls2 := [_, _, _, _]) rfl ?_
  exact L_X8_covered_1 hH hl nH 0 (by omega)
set_option maxHeartbeats 4000000 in
set_option maxRecDepth 100000 in
theorem L_X8_count {d was text ord why son tri : aF} {sta typ at_ sig fst snd rea lef top shf arr goo shn trs : Int32} {nH : Nat} (hH : d 50 = nI nH) (hl : nH ≤ 12) {v : Int32} {r : Option Value} {H : List mC} (hr : mJ k_X8_count 47 [.ref 0, .int v, .int (cP (fun k => ¬ d (160 + k) = -1) nH), .int (nI nH)] [] (mH d was sta text typ at_ sig fst snd rea lef top shf arr goo ord why son shn tri trs) r H) : ∀ (m k : Nat), k + m = nH → mJ k_X8_count 8 [.ref 0, .int v, .int (cP (fun k => ¬ d (160 + k) = -1) k), .int (nI k)] [] (mH d was sta text typ at_ sig fst snd rea lef top shf arr goo ord why son shn tri trs) r H := by
  intro m
  induction m with
  | zero =>
    intro k hk
    refine mJ_iload_n dX8_count_8 rfl ?_
    refine mJ_aload_n dX8_count_9 rfl ?_
    refine mJ_get dX8_count_10 f_X8_7 rfl rfl ?_
    refine mJ_bipush (v := 50) dX8_count_13 rfl ?_
    refine mJ_ialdN dX8_count_15 rfl (j := 50) ⟨rfl, by decide, by decide⟩ ?_
    refine mJ_icmp_ge 47 dX8_count_16 rfl (fun c_16 => ?_) (fun c_16 => False.elim (by exact c_16 (by rw [hH, show k = nH by omega]; exact Int32.le_refl _)))
    rw [show k = nH by omega]; exact hr
  | succ m ih =>
    intro k hk
    refine mJ_iload_n dX8_count_8 rfl ?_
    refine mJ_aload_n dX8_count_9 rfl ?_
    refine mJ_get dX8_count_10 f_X8_7 rfl rfl ?_
    refine mJ_bipush (v := 50) dX8_count_13 rfl ?_
    refine mJ_ialdN dX8_count_15 rfl (j := 50) ⟨rfl, by decide, by decide⟩ ?_
    refine mJ_icmp_ge 47 dX8_count_16 rfl (fun c_16 => False.elim (by rw [hH] at c_16; exact nI_ge (show k < nH by omega) (by omega) c_16)) (fun c_16 => ?_)
    refine mJ_iload_n dX8_count_19 rfl ?_
    refine mJ_aload_n dX8_count_20 rfl ?_
    refine mJ_get dX8_count_21 f_X8_7 rfl rfl ?_
    refine mJ_sipush (v := 160) dX8_count_24 rfl ?_
    refine mJ_iload_n dX8_count_27 rfl ?_
    refine mJ_iadd dX8_count_28 ?_
    refine mJ_ialdN dX8_count_29 rfl (j := 160 + k) ⟨by simp only [← nI_add]; rfl, by omega, by decide⟩ ?_
    refine mJ_iconst (v := (-1)) dX8_count_30 rfl ?_
    refine mJ_icmp_ne 38 dX8_count_31 rfl (fun c_31 => ?_) (fun c_31 => ?_)
    · refine mJ_iconst (v := 1) dX8_count_38 rfl ?_
      refine mJ_iadd dX8_count_39 ?_
      refine mJ_istore_n dX8_count_40 (Nat.le_of_ble_eq_true rfl) (ls2 := [_, _, _, _]) rfl ?_
      refine mJ_iinc dX8_count_41 rfl (Nat.le_of_ble_eq_true rfl) (v := nI (k + 1)) (nI_1 k) (ls2 := [_, _, _, _]) rfl ?_
      refine mJ_goto 8 dX8_count_44 rfl ?_
      rw [show cP (fun k => ¬ d (160 + k) = -1) k + 1 = cP (fun k => ¬ d (160 + k) = -1) (k + 1) from (iif_t c_31).symm]
      exact ih (k + 1) (by omega)
    · refine mJ_iconst (v := 0) dX8_count_34 rfl ?_
      refine mJ_goto 39 dX8_count_35 rfl ?_
      refine mJ_iadd dX8_count_39 ?_
      refine mJ_top (Int32.add_zero _) ?_
      refine mJ_istore_n dX8_count_40 (Nat.le_of_ble_eq_true rfl) (ls2 := [_, _, _, _]) rfl ?_
      refine mJ_iinc dX8_count_41 rfl (Nat.le_of_ble_eq_true rfl) (v := nI (k + 1)) (nI_1 k) (ls2 := [_, _, _, _]) rfl ?_
      refine mJ_goto 8 dX8_count_44 rfl ?_
      rw [show cP (fun k => ¬ d (160 + k) = -1) k = cP (fun k => ¬ d (160 + k) = -1) (k + 1) from (iif_f (fun z => z c_31)).symm]
      exact ih (k + 1) (by omega)
set_option maxHeartbeats 4000000 in
set_option maxRecDepth 100000 in
theorem C_X8_count_0 {d was text ord why son tri : aF} {sta typ at_ sig fst snd rea lef top shf arr goo shn trs : Int32} {nA nH nO : Nat} (hw : wD d nA nH nO) (hi : wI d nO) : ∃ (lef' top' shf' arr' goo' : Int32) (ord' why' son' tri' : aF) (trs' : Int32), mCt k_X8_count [.ref 0, .int 0] (mH d was sta text typ at_ sig fst snd rea lef top shf arr goo ord why son shn tri trs) (some (.int (d 0))) (mH (d) was sta text typ at_ sig fst snd rea (lef') (top') (shf') (arr') (goo') (ord') (why') (son') ((p_all (d) nA nH nO).2.2) (tri') (trs')) := by
  obtain ⟨l1, t1, s1, a1, o1, d1, y1, n1, r1, z1, e1, e2, e3, hj⟩ := C_X8_shows (d := d) (was := was) (sta := sta) (shn := shn) (text := text) (typ := typ) (at_ := at_) (sig := sig) (fst := fst) (snd := snd) (rea := rea) (lef := lef) (top := top) (shf := shf) (arr := arr) (goo := goo) (ord := ord) (why := why) (son := son) (tri := tri) (trs := trs) hw hi
  obtain ⟨w1, w2, w3, w4, w5, w6, w7, w8, w9, w10⟩ := id hw
  refine ⟨l1, t1, s1, a1, o1, d1, y1, n1, r1, z1, ?_⟩
  refine mCt_intro (plainFor_of_name rfl) (Nat.le_of_ble_eq_true rfl) (m_all rfl) (ls := [_, _, _, _]) rfl ?_
  refine mJ_aload_n dX8_count_0 rfl ?_
  refine mJ_cV0v dX8_count_1 e_X8_shows n_X8_112 ⟨Nat.le_of_ble_eq_true rfl, Nat.le_of_ble_eq_true rfl⟩ rfl rfl (Nat.le_of_ble_eq_true rfl) (hj) ?_
  refine mJ_iconst (v := 0) dX8_count_4 rfl ?_
  refine mJ_istore_n dX8_count_5 (Nat.le_of_ble_eq_true rfl) (ls2 := [_, _, _, _]) rfl ?_
  refine mJ_iconst (v := 0) dX8_count_6 rfl ?_
  refine mJ_istore_n dX8_count_7 (Nat.le_of_ble_eq_true rfl) (ls2 := [_, _, _, _]) rfl ?_
  refine L_X8_count w5 w2 ?_ nH 0 (by omega)
  refine mJ_iload_n dX8_count_47 rfl ?_
  refine mJ_tin 136 dX8_count_48 (by decide) (by decide) rfl rfl ?_
  refine mJ_aload_n dX8_count_136 rfl ?_
  refine mJ_get dX8_count_137 f_X8_7 rfl rfl ?_
  refine mJ_iload_n dX8_count_140 rfl ?_
  refine mJ_ialdN dX8_count_141 rfl (j := 0) ⟨rfl, by decide, by decide⟩ ?_
  exact mJ_iret dX8_count_142 rfl (rfl) (rfl)
set_option maxHeartbeats 4000000 in
set_option maxRecDepth 100000 in
theorem C_X8_count_1 {d was text ord why son tri : aF} {sta typ at_ sig fst snd rea lef top shf arr goo shn trs : Int32} {nA nH nO : Nat} (hw : wD d nA nH nO) (hi : wI d nO) : ∃ (lef' top' shf' arr' goo' : Int32) (ord' why' son' tri' : aF) (trs' : Int32), mCt k_X8_count [.ref 0, .int 1] (mH d was sta text typ at_ sig fst snd rea lef top shf arr goo ord why son shn tri trs) (some (.int (d 1))) (mH (d) was sta text typ at_ sig fst snd rea (lef') (top') (shf') (arr') (goo') (ord') (why') (son') ((p_all (d) nA nH nO).2.2) (tri') (trs')) := by
  obtain ⟨l1, t1, s1, a1, o1, d1, y1, n1, r1, z1, e1, e2, e3, hj⟩ := C_X8_shows (d := d) (was := was) (sta := sta) (shn := shn) (text := text) (typ := typ) (at_ := at_) (sig := sig) (fst := fst) (snd := snd) (rea := rea) (lef := lef) (top := top) (shf := shf) (arr := arr) (goo := goo) (ord := ord) (why := why) (son := son) (tri := tri) (trs := trs) hw hi
  obtain ⟨w1, w2, w3, w4, w5, w6, w7, w8, w9, w10⟩ := id hw
  refine ⟨l1, t1, s1, a1, o1, d1, y1, n1, r1, z1, ?_⟩
  refine mCt_intro (plainFor_of_name rfl) (Nat.le_of_ble_eq_true rfl) (m_all rfl) (ls := [_, _, _, _]) rfl ?_
  refine mJ_aload_n dX8_count_0 rfl ?_
  refine mJ_cV0v dX8_count_1 e_X8_shows n_X8_112 ⟨Nat.le_of_ble_eq_true rfl, Nat.le_of_ble_eq_true rfl⟩ rfl rfl (Nat.le_of_ble_eq_true rfl) (hj) ?_
  refine mJ_iconst (v := 0) dX8_count_4 rfl ?_
  refine mJ_istore_n dX8_count_5 (Nat.le_of_ble_eq_true rfl) (ls2 := [_, _, _, _]) rfl ?_
  refine mJ_iconst (v := 0) dX8_count_6 rfl ?_
  refine mJ_istore_n dX8_count_7 (Nat.le_of_ble_eq_true rfl) (ls2 := [_, _, _, _]) rfl ?_
  refine L_X8_count w5 w2 ?_ nH 0 (by omega)
  refine mJ_iload_n dX8_count_47 rfl ?_
  refine mJ_tin 136 dX8_count_48 (by decide) (by decide) rfl rfl ?_
  refine mJ_aload_n dX8_count_136 rfl ?_
  refine mJ_get dX8_count_137 f_X8_7 rfl rfl ?_
  refine mJ_iload_n dX8_count_140 rfl ?_
  refine mJ_ialdN dX8_count_141 rfl (j := 1) ⟨rfl, by decide, by decide⟩ ?_
  exact mJ_iret dX8_count_142 rfl (rfl) (rfl)
set_option maxHeartbeats 4000000 in
set_option maxRecDepth 100000 in
theorem C_X8_count_2 {d was text ord why son tri : aF} {sta typ at_ sig fst snd rea lef top shf arr goo shn trs : Int32} {nA nH nO : Nat} (hw : wD d nA nH nO) (hi : wI d nO) : ∃ (lef' top' shf' arr' goo' : Int32) (ord' why' son' tri' : aF) (trs' : Int32), mCt k_X8_count [.ref 0, .int 2] (mH d was sta text typ at_ sig fst snd rea lef top shf arr goo ord why son shn tri trs) (some (.int (d 2))) (mH (d) was sta text typ at_ sig fst snd rea (lef') (top') (shf') (arr') (goo') (ord') (why') (son') ((p_all (d) nA nH nO).2.2) (tri') (trs')) := by
  obtain ⟨l1, t1, s1, a1, o1, d1, y1, n1, r1, z1, e1, e2, e3, hj⟩ := C_X8_shows (d := d) (was := was) (sta := sta) (shn := shn) (text := text) (typ := typ) (at_ := at_) (sig := sig) (fst := fst) (snd := snd) (rea := rea) (lef := lef) (top := top) (shf := shf) (arr := arr) (goo := goo) (ord := ord) (why := why) (son := son) (tri := tri) (trs := trs) hw hi
  obtain ⟨w1, w2, w3, w4, w5, w6, w7, w8, w9, w10⟩ := id hw
  refine ⟨l1, t1, s1, a1, o1, d1, y1, n1, r1, z1, ?_⟩
  refine mCt_intro (plainFor_of_name rfl) (Nat.le_of_ble_eq_true rfl) (m_all rfl) (ls := [_, _, _, _]) rfl ?_
  refine mJ_aload_n dX8_count_0 rfl ?_
  refine mJ_cV0v dX8_count_1 e_X8_shows n_X8_112 ⟨Nat.le_of_ble_eq_true rfl, Nat.le_of_ble_eq_true rfl⟩ rfl rfl (Nat.le_of_ble_eq_true rfl) (hj) ?_
  refine mJ_iconst (v := 0) dX8_count_4 rfl ?_
  refine mJ_istore_n dX8_count_5 (Nat.le_of_ble_eq_true rfl) (ls2 := [_, _, _, _]) rfl ?_
  refine mJ_iconst (v := 0) dX8_count_6 rfl ?_
  refine mJ_istore_n dX8_count_7 (Nat.le_of_ble_eq_true rfl) (ls2 := [_, _, _, _]) rfl ?_
  refine L_X8_count w5 w2 ?_ nH 0 (by omega)
  refine mJ_iload_n dX8_count_47 rfl ?_
  refine mJ_tin 136 dX8_count_48 (by decide) (by decide) rfl rfl ?_
  refine mJ_aload_n dX8_count_136 rfl ?_
  refine mJ_get dX8_count_137 f_X8_7 rfl rfl ?_
  refine mJ_iload_n dX8_count_140 rfl ?_
  refine mJ_ialdN dX8_count_141 rfl (j := 2) ⟨rfl, by decide, by decide⟩ ?_
  exact mJ_iret dX8_count_142 rfl (rfl) (rfl)
set_option maxHeartbeats 4000000 in
set_option maxRecDepth 100000 in
theorem C_X8_count_3 {d was text ord why son tri : aF} {sta typ at_ sig fst snd rea lef top shf arr goo shn trs : Int32} {nA nH nO : Nat} (hw : wD d nA nH nO) (hi : wI d nO) : ∃ (lef' top' shf' arr' goo' : Int32) (ord' why' son' tri' : aF) (trs' : Int32), mCt k_X8_count [.ref 0, .int 3] (mH d was sta text typ at_ sig fst snd rea lef top shf arr goo ord why son shn tri trs) (some (.int (d 3))) (mH (d) was sta text typ at_ sig fst snd rea (lef') (top') (shf') (arr') (goo') (ord') (why') (son') ((p_all (d) nA nH nO).2.2) (tri') (trs')) := by
  obtain ⟨l1, t1, s1, a1, o1, d1, y1, n1, r1, z1, e1, e2, e3, hj⟩ := C_X8_shows (d := d) (was := was) (sta := sta) (shn := shn) (text := text) (typ := typ) (at_ := at_) (sig := sig) (fst := fst) (snd := snd) (rea := rea) (lef := lef) (top := top) (shf := shf) (arr := arr) (goo := goo) (ord := ord) (why := why) (son := son) (tri := tri) (trs := trs) hw hi
  obtain ⟨w1, w2, w3, w4, w5, w6, w7, w8, w9, w10⟩ := id hw
  refine ⟨l1, t1, s1, a1, o1, d1, y1, n1, r1, z1, ?_⟩
  refine mCt_intro (plainFor_of_name rfl) (Nat.le_of_ble_eq_true rfl) (m_all rfl) (ls := [_, _, _, _]) rfl ?_
  refine mJ_aload_n dX8_count_0 rfl ?_
  refine mJ_cV0v dX8_count_1 e_X8_shows n_X8_112 ⟨Nat.le_of_ble_eq_true rfl, Nat.le_of_ble_eq_true rfl⟩ rfl rfl (Nat.le_of_ble_eq_true rfl) (hj) ?_
  refine mJ_iconst (v := 0) dX8_count_4 rfl ?_
  refine mJ_istore_n dX8_count_5 (Nat.le_of_ble_eq_true rfl) (ls2 := [_, _, _, _]) rfl ?_
  refine mJ_iconst (v := 0) dX8_count_6 rfl ?_
  refine mJ_istore_n dX8_count_7 (Nat.le_of_ble_eq_true rfl) (ls2 := [_, _, _, _]) rfl ?_
  refine L_X8_count w5 w2 ?_ nH 0 (by omega)
  refine mJ_iload_n dX8_count_47 rfl ?_
  refine mJ_tin 136 dX8_count_48 (by decide) (by decide) rfl rfl ?_
  refine mJ_aload_n dX8_count_136 rfl ?_
  refine mJ_get dX8_count_137 f_X8_7 rfl rfl ?_
  refine mJ_iload_n dX8_count_140 rfl ?_
  refine mJ_ialdN dX8_count_141 rfl (j := 3) ⟨rfl, by decide, by decide⟩ ?_
  exact mJ_iret dX8_count_142 rfl (rfl) (rfl)
set_option maxHeartbeats 4000000 in
set_option maxRecDepth 100000 in
theorem C_X8_count_4 {d was text ord why son tri : aF} {sta typ at_ sig fst snd rea lef top shf arr goo shn trs : Int32} {nA nH nO : Nat} (hw : wD d nA nH nO) (hi : wI d nO) : ∃ (lef' top' shf' arr' goo' : Int32) (ord' why' son' tri' : aF) (trs' : Int32), mCt k_X8_count [.ref 0, .int 4] (mH d was sta text typ at_ sig fst snd rea lef top shf arr goo ord why son shn tri trs) (some (.int (d 9))) (mH (d) was sta text typ at_ sig fst snd rea (lef') (top') (shf') (arr') (goo') (ord') (why') (son') ((p_all (d) nA nH nO).2.2) (tri') (trs')) := by
  obtain ⟨l1, t1, s1, a1, o1, d1, y1, n1, r1, z1, e1, e2, e3, hj⟩ := C_X8_shows (d := d) (was := was) (sta := sta) (shn := shn) (text := text) (typ := typ) (at_ := at_) (sig := sig) (fst := fst) (snd := snd) (rea := rea) (lef := lef) (top := top) (shf := shf) (arr := arr) (goo := goo) (ord := ord) (why := why) (son := son) (tri := tri) (trs := trs) hw hi
  obtain ⟨w1, w2, w3, w4, w5, w6, w7, w8, w9, w10⟩ := id hw
  refine ⟨l1, t1, s1, a1, o1, d1, y1, n1, r1, z1, ?_⟩
  refine mCt_intro (plainFor_of_name rfl) (Nat.le_of_ble_eq_true rfl) (m_all rfl) (ls := [_, _, _, _]) rfl ?_
  refine mJ_aload_n dX8_count_0 rfl ?_
  refine mJ_cV0v dX8_count_1 e_X8_shows n_X8_112 ⟨Nat.le_of_ble_eq_true rfl, Nat.le_of_ble_eq_true rfl⟩ rfl rfl (Nat.le_of_ble_eq_true rfl) (hj) ?_
  refine mJ_iconst (v := 0) dX8_count_4 rfl ?_
  refine mJ_istore_n dX8_count_5 (Nat.le_of_ble_eq_true rfl) (ls2 := [_, _, _, _]) rfl ?_
  refine mJ_iconst (v := 0) dX8_count_6 rfl ?_
  refine mJ_istore_n dX8_count_7 (Nat.le_of_ble_eq_true rfl) (ls2 := [_, _, _, _]) rfl ?_
  refine L_X8_count w5 w2 ?_ nH 0 (by omega)
  refine mJ_iload_n dX8_count_47 rfl ?_
  refine mJ_tin 143 dX8_count_48 (by decide) (by decide) rfl rfl ?_
  refine mJ_aload_n dX8_count_143 rfl ?_
  refine mJ_get dX8_count_144 f_X8_7 rfl rfl ?_
  refine mJ_bipush (v := 9) dX8_count_147 rfl ?_
  refine mJ_ialdN dX8_count_149 rfl (j := 9) ⟨rfl, by decide, by decide⟩ ?_
  exact mJ_iret dX8_count_150 rfl (rfl) (rfl)
set_option maxHeartbeats 4000000 in
set_option maxRecDepth 100000 in
theorem C_X8_count_5 {d was text ord why son tri : aF} {sta typ at_ sig fst snd rea lef top shf arr goo shn trs : Int32} {nA nH nO : Nat} (hw : wD d nA nH nO) (hi : wI d nO) : ∃ (lef' top' shf' arr' goo' : Int32) (ord' why' son' tri' : aF) (trs' : Int32), mCt k_X8_count [.ref 0, .int 5] (mH d was sta text typ at_ sig fst snd rea lef top shf arr goo ord why son shn tri trs) (some (.int (d 50))) (mH (d) was sta text typ at_ sig fst snd rea (lef') (top') (shf') (arr') (goo') (ord') (why') (son') ((p_all (d) nA nH nO).2.2) (tri') (trs')) := by
  obtain ⟨l1, t1, s1, a1, o1, d1, y1, n1, r1, z1, e1, e2, e3, hj⟩ := C_X8_shows (d := d) (was := was) (sta := sta) (shn := shn) (text := text) (typ := typ) (at_ := at_) (sig := sig) (fst := fst) (snd := snd) (rea := rea) (lef := lef) (top := top) (shf := shf) (arr := arr) (goo := goo) (ord := ord) (why := why) (son := son) (tri := tri) (trs := trs) hw hi
  obtain ⟨w1, w2, w3, w4, w5, w6, w7, w8, w9, w10⟩ := id hw
  refine ⟨l1, t1, s1, a1, o1, d1, y1, n1, r1, z1, ?_⟩
  refine mCt_intro (plainFor_of_name rfl) (Nat.le_of_ble_eq_true rfl) (m_all rfl) (ls := [_, _, _, _]) rfl ?_
  refine mJ_aload_n dX8_count_0 rfl ?_
  refine mJ_cV0v dX8_count_1 e_X8_shows n_X8_112 ⟨Nat.le_of_ble_eq_true rfl, Nat.le_of_ble_eq_true rfl⟩ rfl rfl (Nat.le_of_ble_eq_true rfl) (hj) ?_
  refine mJ_iconst (v := 0) dX8_count_4 rfl ?_
  refine mJ_istore_n dX8_count_5 (Nat.le_of_ble_eq_true rfl) (ls2 := [_, _, _, _]) rfl ?_
  refine mJ_iconst (v := 0) dX8_count_6 rfl ?_
  refine mJ_istore_n dX8_count_7 (Nat.le_of_ble_eq_true rfl) (ls2 := [_, _, _, _]) rfl ?_
  refine L_X8_count w5 w2 ?_ nH 0 (by omega)
  refine mJ_iload_n dX8_count_47 rfl ?_
  refine mJ_tin 151 dX8_count_48 (by decide) (by decide) rfl rfl ?_
  refine mJ_aload_n dX8_count_151 rfl ?_
  refine mJ_get dX8_count_152 f_X8_7 rfl rfl ?_
  refine mJ_bipush (v := 50) dX8_count_155 rfl ?_
  refine mJ_ialdN dX8_count_157 rfl (j := 50) ⟨rfl, by decide, by decide⟩ ?_
  exact mJ_iret dX8_count_158 rfl (rfl) (rfl)
set_option maxHeartbeats 4000000 in
set_option maxRecDepth 100000 in
theorem C_X8_count_6 {d was text ord why son tri : aF} {sta typ at_ sig fst snd rea lef top shf arr goo shn trs : Int32} {nA nH nO : Nat} (hw : wD d nA nH nO) (hi : wI d nO) : ∃ (lef' top' shf' arr' goo' : Int32) (ord' why' son' tri' : aF) (trs' : Int32), mCt k_X8_count [.ref 0, .int 6] (mH d was sta text typ at_ sig fst snd rea lef top shf arr goo ord why son shn tri trs) (some (.int (d 147))) (mH (d) was sta text typ at_ sig fst snd rea (lef') (top') (shf') (arr') (goo') (ord') (why') (son') ((p_all (d) nA nH nO).2.2) (tri') (trs')) := by
  obtain ⟨l1, t1, s1, a1, o1, d1, y1, n1, r1, z1, e1, e2, e3, hj⟩ := C_X8_shows (d := d) (was := was) (sta := sta) (shn := shn) (text := text) (typ := typ) (at_ := at_) (sig := sig) (fst := fst) (snd := snd) (rea := rea) (lef := lef) (top := top) (shf := shf) (arr := arr) (goo := goo) (ord := ord) (why := why) (son := son) (tri := tri) (trs := trs) hw hi
  obtain ⟨w1, w2, w3, w4, w5, w6, w7, w8, w9, w10⟩ := id hw
  refine ⟨l1, t1, s1, a1, o1, d1, y1, n1, r1, z1, ?_⟩
  refine mCt_intro (plainFor_of_name rfl) (Nat.le_of_ble_eq_true rfl) (m_all rfl) (ls := [_, _, _, _]) rfl ?_
  refine mJ_aload_n dX8_count_0 rfl ?_
  refine mJ_cV0v dX8_count_1 e_X8_shows n_X8_112 ⟨Nat.le_of_ble_eq_true rfl, Nat.le_of_ble_eq_true rfl⟩ rfl rfl (Nat.le_of_ble_eq_true rfl) (hj) ?_
  refine mJ_iconst (v := 0) dX8_count_4 rfl ?_
  refine mJ_istore_n dX8_count_5 (Nat.le_of_ble_eq_true rfl) (ls2 := [_, _, _, _]) rfl ?_
  refine mJ_iconst (v := 0) dX8_count_6 rfl ?_
  refine mJ_istore_n dX8_count_7 (Nat.le_of_ble_eq_true rfl) (ls2 := [_, _, _, _]) rfl ?_
  refine L_X8_count w5 w2 ?_ nH 0 (by omega)
  refine mJ_iload_n dX8_count_47 rfl ?_
  refine mJ_tin 159 dX8_count_48 (by decide) (by decide) rfl rfl ?_
  refine mJ_aload_n dX8_count_159 rfl ?_
  refine mJ_get dX8_count_160 f_X8_7 rfl rfl ?_
  refine mJ_sipush (v := 147) dX8_count_163 rfl ?_
  refine mJ_ialdN dX8_count_166 rfl (j := 147) ⟨rfl, by decide, by decide⟩ ?_
  exact mJ_iret dX8_count_167 rfl (rfl) (rfl)
set_option maxHeartbeats 4000000 in
set_option maxRecDepth 100000 in
theorem C_X8_count_7 {d was text ord why son tri : aF} {sta typ at_ sig fst snd rea lef top shf arr goo shn trs : Int32} {nA nH nO : Nat} (hw : wD d nA nH nO) (hi : wI d nO) : ∃ (lef' top' shf' arr' goo' : Int32) (ord' why' son' tri' : aF) (trs' : Int32), mCt k_X8_count [.ref 0, .int 7] (mH d was sta text typ at_ sig fst snd rea lef top shf arr goo ord why son shn tri trs) (some (.int (p_all d nA nH nO).2.2)) (mH (d) was sta text typ at_ sig fst snd rea (lef') (top') (shf') (arr') (goo') (ord') (why') (son') ((p_all (d) nA nH nO).2.2) (tri') (trs')) := by
  obtain ⟨l1, t1, s1, a1, o1, d1, y1, n1, r1, z1, e1, e2, e3, hj⟩ := C_X8_shows (d := d) (was := was) (sta := sta) (shn := shn) (text := text) (typ := typ) (at_ := at_) (sig := sig) (fst := fst) (snd := snd) (rea := rea) (lef := lef) (top := top) (shf := shf) (arr := arr) (goo := goo) (ord := ord) (why := why) (son := son) (tri := tri) (trs := trs) hw hi
  obtain ⟨w1, w2, w3, w4, w5, w6, w7, w8, w9, w10⟩ := id hw
  refine ⟨l1, t1, s1, a1, o1, d1, y1, n1, r1, z1, ?_⟩
  refine mCt_intro (plainFor_of_name rfl) (Nat.le_of_ble_eq_true rfl) (m_all rfl) (ls := [_, _, _, _]) rfl ?_
  refine mJ_aload_n dX8_count_0 rfl ?_
  refine mJ_cV0v dX8_count_1 e_X8_shows n_X8_112 ⟨Nat.le_of_ble_eq_true rfl, Nat.le_of_ble_eq_true rfl⟩ rfl rfl (Nat.le_of_ble_eq_true rfl) (hj) ?_
  refine mJ_iconst (v := 0) dX8_count_4 rfl ?_
  refine mJ_istore_n dX8_count_5 (Nat.le_of_ble_eq_true rfl) (ls2 := [_, _, _, _]) rfl ?_
  refine mJ_iconst (v := 0) dX8_count_6 rfl ?_
  refine mJ_istore_n dX8_count_7 (Nat.le_of_ble_eq_true rfl) (ls2 := [_, _, _, _]) rfl ?_
  refine L_X8_count w5 w2 ?_ nH 0 (by omega)
  refine mJ_iload_n dX8_count_47 rfl ?_
  refine mJ_tin 168 dX8_count_48 (by decide) (by decide) rfl rfl ?_
  refine mJ_aload_n dX8_count_168 rfl ?_
  refine mJ_get dX8_count_169 f_X8_100 rfl rfl ?_
  exact mJ_iret dX8_count_172 rfl (rfl) (rfl)
set_option maxHeartbeats 4000000 in
set_option maxRecDepth 100000 in
theorem C_X8_count_8 {d was text ord why son tri : aF} {sta typ at_ sig fst snd rea lef top shf arr goo shn trs : Int32} {nA nH nO : Nat} (hw : wD d nA nH nO) (hi : wI d nO) : ∃ (lef' top' shf' arr' goo' : Int32) (ord' why' son' tri' : aF) (trs' : Int32), mCt k_X8_count [.ref 0, .int 8] (mH d was sta text typ at_ sig fst snd rea lef top shf arr goo ord why son shn tri trs) (some (.int (cP (fun k => ¬ d (160 + k) = -1) nH))) (mH (d) was sta text typ at_ sig fst snd rea (lef') (top') (shf') (arr') (goo') (ord') (why') (son') ((p_all (d) nA nH nO).2.2) (tri') (trs')) := by
  obtain ⟨l1, t1, s1, a1, o1, d1, y1, n1, r1, z1, e1, e2, e3, hj⟩ := C_X8_shows (d := d) (was := was) (sta := sta) (shn := shn) (text := text) (typ := typ) (at_ := at_) (sig := sig) (fst := fst) (snd := snd) (rea := rea) (lef := lef) (top := top) (shf := shf) (arr := arr) (goo := goo) (ord := ord) (why := why) (son := son) (tri := tri) (trs := trs) hw hi
  obtain ⟨w1, w2, w3, w4, w5, w6, w7, w8, w9, w10⟩ := id hw
  refine ⟨l1, t1, s1, a1, o1, d1, y1, n1, r1, z1, ?_⟩
  refine mCt_intro (plainFor_of_name rfl) (Nat.le_of_ble_eq_true rfl) (m_all rfl) (ls := [_, _, _, _]) rfl ?_
  refine mJ_aload_n dX8_count_0 rfl ?_
  refine mJ_cV0v dX8_count_1 e_X8_shows n_X8_112 ⟨Nat.le_of_ble_eq_true rfl, Nat.le_of_ble_eq_true rfl⟩ rfl rfl (Nat.le_of_ble_eq_true rfl) (hj) ?_
  refine mJ_iconst (v := 0) dX8_count_4 rfl ?_
  refine mJ_istore_n dX8_count_5 (Nat.le_of_ble_eq_true rfl) (ls2 := [_, _, _, _]) rfl ?_
  refine mJ_iconst (v := 0) dX8_count_6 rfl ?_
  refine mJ_istore_n dX8_count_7 (Nat.le_of_ble_eq_true rfl) (ls2 := [_, _, _, _]) rfl ?_
  refine L_X8_count w5 w2 ?_ nH 0 (by omega)
  refine mJ_iload_n dX8_count_47 rfl ?_
  refine mJ_tin 173 dX8_count_48 (by decide) (by decide) rfl rfl ?_
  refine mJ_iload_n dX8_count_173 rfl ?_
  exact mJ_iret dX8_count_174 rfl (rfl) (rfl)
set_option maxHeartbeats 4000000 in
set_option maxRecDepth 100000 in
theorem C_X8_count_9 {d was text ord why son tri : aF} {sta typ at_ sig fst snd rea lef top shf arr goo shn trs : Int32} {nA nH nO : Nat} (hw : wD d nA nH nO) (hi : wI d nO) : ∃ (lef' top' shf' arr' goo' : Int32) (ord' why' son' tri' : aF) (trs' : Int32), mCt k_X8_count [.ref 0, .int 9] (mH d was sta text typ at_ sig fst snd rea lef top shf arr goo ord why son shn tri trs) (some (.int sta)) (mH (d) was sta text typ at_ sig fst snd rea (lef') (top') (shf') (arr') (goo') (ord') (why') (son') ((p_all (d) nA nH nO).2.2) (tri') (trs')) := by
  obtain ⟨l1, t1, s1, a1, o1, d1, y1, n1, r1, z1, e1, e2, e3, hj⟩ := C_X8_shows (d := d) (was := was) (sta := sta) (shn := shn) (text := text) (typ := typ) (at_ := at_) (sig := sig) (fst := fst) (snd := snd) (rea := rea) (lef := lef) (top := top) (shf := shf) (arr := arr) (goo := goo) (ord := ord) (why := why) (son := son) (tri := tri) (trs := trs) hw hi
  obtain ⟨w1, w2, w3, w4, w5, w6, w7, w8, w9, w10⟩ := id hw
  refine ⟨l1, t1, s1, a1, o1, d1, y1, n1, r1, z1, ?_⟩
  refine mCt_intro (plainFor_of_name rfl) (Nat.le_of_ble_eq_true rfl) (m_all rfl) (ls := [_, _, _, _]) rfl ?_
  refine mJ_aload_n dX8_count_0 rfl ?_
  refine mJ_cV0v dX8_count_1 e_X8_shows n_X8_112 ⟨Nat.le_of_ble_eq_true rfl, Nat.le_of_ble_eq_true rfl⟩ rfl rfl (Nat.le_of_ble_eq_true rfl) (hj) ?_
  refine mJ_iconst (v := 0) dX8_count_4 rfl ?_
  refine mJ_istore_n dX8_count_5 (Nat.le_of_ble_eq_true rfl) (ls2 := [_, _, _, _]) rfl ?_
  refine mJ_iconst (v := 0) dX8_count_6 rfl ?_
  refine mJ_istore_n dX8_count_7 (Nat.le_of_ble_eq_true rfl) (ls2 := [_, _, _, _]) rfl ?_
  refine L_X8_count w5 w2 ?_ nH 0 (by omega)
  refine mJ_iload_n dX8_count_47 rfl ?_
  refine mJ_tin 175 dX8_count_48 (by decide) (by decide) rfl rfl ?_
  refine mJ_aload_n dX8_count_175 rfl ?_
  refine mJ_get dX8_count_176 f_X8_36 rfl rfl ?_
  exact mJ_iret dX8_count_179 rfl (rfl) (rfl)
set_option maxHeartbeats 4000000 in
set_option maxRecDepth 100000 in
theorem C_X8_count_10 {d was text ord why son tri : aF} {sta typ at_ sig fst snd rea lef top shf arr goo shn trs : Int32} {nA nH nO : Nat} (hw : wD d nA nH nO) (hi : wI d nO) : ∃ (lef' top' shf' arr' goo' : Int32) (ord' why' son' tri' : aF) (trs' : Int32), mCt k_X8_count [.ref 0, .int 10] (mH d was sta text typ at_ sig fst snd rea lef top shf arr goo ord why son shn tri trs) (some (.int typ)) (mH (d) was sta text typ at_ sig fst snd rea (lef') (top') (shf') (arr') (goo') (ord') (why') (son') ((p_all (d) nA nH nO).2.2) (tri') (trs')) := by
  obtain ⟨l1, t1, s1, a1, o1, d1, y1, n1, r1, z1, e1, e2, e3, hj⟩ := C_X8_shows (d := d) (was := was) (sta := sta) (shn := shn) (text := text) (typ := typ) (at_ := at_) (sig := sig) (fst := fst) (snd := snd) (rea := rea) (lef := lef) (top := top) (shf := shf) (arr := arr) (goo := goo) (ord := ord) (why := why) (son := son) (tri := tri) (trs := trs) hw hi
  obtain ⟨w1, w2, w3, w4, w5, w6, w7, w8, w9, w10⟩ := id hw
  refine ⟨l1, t1, s1, a1, o1, d1, y1, n1, r1, z1, ?_⟩
  refine mCt_intro (plainFor_of_name rfl) (Nat.le_of_ble_eq_true rfl) (m_all rfl) (ls := [_, _, _, _]) rfl ?_
  refine mJ_aload_n dX8_count_0 rfl ?_
  refine mJ_cV0v dX8_count_1 e_X8_shows n_X8_112 ⟨Nat.le_of_ble_eq_true rfl, Nat.le_of_ble_eq_true rfl⟩ rfl rfl (Nat.le_of_ble_eq_true rfl) (hj) ?_
  refine mJ_iconst (v := 0) dX8_count_4 rfl ?_
  refine mJ_istore_n dX8_count_5 (Nat.le_of_ble_eq_true rfl) (ls2 := [_, _, _, _]) rfl ?_
  refine mJ_iconst (v := 0) dX8_count_6 rfl ?_
  refine mJ_istore_n dX8_count_7 (Nat.le_of_ble_eq_true rfl) (ls2 := [_, _, _, _]) rfl ?_
  refine L_X8_count w5 w2 ?_ nH 0 (by omega)
  refine mJ_iload_n dX8_count_47 rfl ?_
  refine mJ_tin 180 dX8_count_48 (by decide) (by decide) rfl rfl ?_
  refine mJ_aload_n dX8_count_180 rfl ?_
  refine mJ_get dX8_count_181 f_X8_131 rfl rfl ?_
  exact mJ_iret dX8_count_184 rfl (rfl) (rfl)
set_option maxHeartbeats 4000000 in
set_option maxRecDepth 100000 in
theorem C_X8_count_11 {d was text ord why son tri : aF} {sta typ at_ sig fst snd rea lef top shf arr goo shn trs : Int32} {nA nH nO : Nat} (hw : wD d nA nH nO) (hi : wI d nO) : ∃ (lef' top' shf' arr' goo' : Int32) (ord' why' son' tri' : aF) (trs' : Int32), mCt k_X8_count [.ref 0, .int 11] (mH d was sta text typ at_ sig fst snd rea lef top shf arr goo ord why son shn tri trs) (some (.int (d 4))) (mH (d) was sta text typ at_ sig fst snd rea (lef') (top') (shf') (arr') (goo') (ord') (why') (son') ((p_all (d) nA nH nO).2.2) (tri') (trs')) := by
  obtain ⟨l1, t1, s1, a1, o1, d1, y1, n1, r1, z1, e1, e2, e3, hj⟩ := C_X8_shows (d := d) (was := was) (sta := sta) (shn := shn) (text := text) (typ := typ) (at_ := at_) (sig := sig) (fst := fst) (snd := snd) (rea := rea) (lef := lef) (top := top) (shf := shf) (arr := arr) (goo := goo) (ord := ord) (why := why) (son := son) (tri := tri) (trs := trs) hw hi
  obtain ⟨w1, w2, w3, w4, w5, w6, w7, w8, w9, w10⟩ := id hw
  refine ⟨l1, t1, s1, a1, o1, d1, y1, n1, r1, z1, ?_⟩
  refine mCt_intro (plainFor_of_name rfl) (Nat.le_of_ble_eq_true rfl) (m_all rfl) (ls := [_, _, _, _]) rfl ?_
  refine mJ_aload_n dX8_count_0 rfl ?_
  refine mJ_cV0v dX8_count_1 e_X8_shows n_X8_112 ⟨Nat.le_of_ble_eq_true rfl, Nat.le_of_ble_eq_true rfl⟩ rfl rfl (Nat.le_of_ble_eq_true rfl) (hj) ?_
  refine mJ_iconst (v := 0) dX8_count_4 rfl ?_
  refine mJ_istore_n dX8_count_5 (Nat.le_of_ble_eq_true rfl) (ls2 := [_, _, _, _]) rfl ?_
  refine mJ_iconst (v := 0) dX8_count_6 rfl ?_
  refine mJ_istore_n dX8_count_7 (Nat.le_of_ble_eq_true rfl) (ls2 := [_, _, _, _]) rfl ?_
  refine L_X8_count w5 w2 ?_ nH 0 (by omega)
  refine mJ_iload_n dX8_count_47 rfl ?_
  refine mJ_tin 185 dX8_count_48 (by decide) (by decide) rfl rfl ?_
  refine mJ_aload_n dX8_count_185 rfl ?_
  refine mJ_get dX8_count_186 f_X8_7 rfl rfl ?_
  refine mJ_iload_n dX8_count_189 rfl ?_
  refine mJ_bipush (v := 7) dX8_count_190 rfl ?_
  refine mJ_isub dX8_count_192 ?_
  refine mJ_ialdN dX8_count_193 rfl (j := 4) ⟨by decide, by decide, by decide⟩ ?_
  exact mJ_iret dX8_count_194 rfl (rfl) (rfl)
set_option maxHeartbeats 4000000 in
set_option maxRecDepth 100000 in
theorem C_X8_count_12 {d was text ord why son tri : aF} {sta typ at_ sig fst snd rea lef top shf arr goo shn trs : Int32} {nA nH nO : Nat} (hw : wD d nA nH nO) (hi : wI d nO) : ∃ (lef' top' shf' arr' goo' : Int32) (ord' why' son' tri' : aF) (trs' : Int32), mCt k_X8_count [.ref 0, .int 12] (mH d was sta text typ at_ sig fst snd rea lef top shf arr goo ord why son shn tri trs) (some (.int (d 5))) (mH (d) was sta text typ at_ sig fst snd rea (lef') (top') (shf') (arr') (goo') (ord') (why') (son') ((p_all (d) nA nH nO).2.2) (tri') (trs')) := by
  obtain ⟨l1, t1, s1, a1, o1, d1, y1, n1, r1, z1, e1, e2, e3, hj⟩ := C_X8_shows (d := d) (was := was) (sta := sta) (shn := shn) (text := text) (typ := typ) (at_ := at_) (sig := sig) (fst := fst) (snd := snd) (rea := rea) (lef := lef) (top := top) (shf := shf) (arr := arr) (goo := goo) (ord := ord) (why := why) (son := son) (tri := tri) (trs := trs) hw hi
  obtain ⟨w1, w2, w3, w4, w5, w6, w7, w8, w9, w10⟩ := id hw
  refine ⟨l1, t1, s1, a1, o1, d1, y1, n1, r1, z1, ?_⟩
  refine mCt_intro (plainFor_of_name rfl) (Nat.le_of_ble_eq_true rfl) (m_all rfl) (ls := [_, _, _, _]) rfl ?_
  refine mJ_aload_n dX8_count_0 rfl ?_
  refine mJ_cV0v dX8_count_1 e_X8_shows n_X8_112 ⟨Nat.le_of_ble_eq_true rfl, Nat.le_of_ble_eq_true rfl⟩ rfl rfl (Nat.le_of_ble_eq_true rfl) (hj) ?_
  refine mJ_iconst (v := 0) dX8_count_4 rfl ?_
  refine mJ_istore_n dX8_count_5 (Nat.le_of_ble_eq_true rfl) (ls2 := [_, _, _, _]) rfl ?_
  refine mJ_iconst (v := 0) dX8_count_6 rfl ?_
  refine mJ_istore_n dX8_count_7 (Nat.le_of_ble_eq_true rfl) (ls2 := [_, _, _, _]) rfl ?_
  refine L_X8_count w5 w2 ?_ nH 0 (by omega)
  refine mJ_iload_n dX8_count_47 rfl ?_
  refine mJ_tin 185 dX8_count_48 (by decide) (by decide) rfl rfl ?_
  refine mJ_aload_n dX8_count_185 rfl ?_
  refine mJ_get dX8_count_186 f_X8_7 rfl rfl ?_
  refine mJ_iload_n dX8_count_189 rfl ?_
  refine mJ_bipush (v := 7) dX8_count_190 rfl ?_
  refine mJ_isub dX8_count_192 ?_
  refine mJ_ialdN dX8_count_193 rfl (j := 5) ⟨by decide, by decide, by decide⟩ ?_
  exact mJ_iret dX8_count_194 rfl (rfl) (rfl)
set_option maxHeartbeats 4000000 in
set_option maxRecDepth 100000 in
theorem C_X8_count_13 {d was text ord why son tri : aF} {sta typ at_ sig fst snd rea lef top shf arr goo shn trs : Int32} {nA nH nO : Nat} (hw : wD d nA nH nO) (hi : wI d nO) : ∃ (lef' top' shf' arr' goo' : Int32) (ord' why' son' tri' : aF) (trs' : Int32), mCt k_X8_count [.ref 0, .int 13] (mH d was sta text typ at_ sig fst snd rea lef top shf arr goo ord why son shn tri trs) (some (.int (d 6))) (mH (d) was sta text typ at_ sig fst snd rea (lef') (top') (shf') (arr') (goo') (ord') (why') (son') ((p_all (d) nA nH nO).2.2) (tri') (trs')) := by
  obtain ⟨l1, t1, s1, a1, o1, d1, y1, n1, r1, z1, e1, e2, e3, hj⟩ := C_X8_shows (d := d) (was := was) (sta := sta) (shn := shn) (text := text) (typ := typ) (at_ := at_) (sig := sig) (fst := fst) (snd := snd) (rea := rea) (lef := lef) (top := top) (shf := shf) (arr := arr) (goo := goo) (ord := ord) (why := why) (son := son) (tri := tri) (trs := trs) hw hi
  obtain ⟨w1, w2, w3, w4, w5, w6, w7, w8, w9, w10⟩ := id hw
  refine ⟨l1, t1, s1, a1, o1, d1, y1, n1, r1, z1, ?_⟩
  refine mCt_intro (plainFor_of_name rfl) (Nat.le_of_ble_eq_true rfl) (m_all rfl) (ls := [_, _, _, _]) rfl ?_
  refine mJ_aload_n dX8_count_0 rfl ?_
  refine mJ_cV0v dX8_count_1 e_X8_shows n_X8_112 ⟨Nat.le_of_ble_eq_true rfl, Nat.le_of_ble_eq_true rfl⟩ rfl rfl (Nat.le_of_ble_eq_true rfl) (hj) ?_
  refine mJ_iconst (v := 0) dX8_count_4 rfl ?_
  refine mJ_istore_n dX8_count_5 (Nat.le_of_ble_eq_true rfl) (ls2 := [_, _, _, _]) rfl ?_
  refine mJ_iconst (v := 0) dX8_count_6 rfl ?_
  refine mJ_istore_n dX8_count_7 (Nat.le_of_ble_eq_true rfl) (ls2 := [_, _, _, _]) rfl ?_
  refine L_X8_count w5 w2 ?_ nH 0 (by omega)
  refine mJ_iload_n dX8_count_47 rfl ?_
  refine mJ_tin 185 dX8_count_48 (by decide) (by decide) rfl rfl ?_
  refine mJ_aload_n dX8_count_185 rfl ?_
  refine mJ_get dX8_count_186 f_X8_7 rfl rfl ?_
  refine mJ_iload_n dX8_count_189 rfl ?_
  refine mJ_bipush (v := 7) dX8_count_190 rfl ?_
  refine mJ_isub dX8_count_192 ?_
  refine mJ_ialdN dX8_count_193 rfl (j := 6) ⟨by decide, by decide, by decide⟩ ?_
  exact mJ_iret dX8_count_194 rfl (rfl) (rfl)
set_option maxHeartbeats 4000000 in
set_option maxRecDepth 100000 in
theorem C_X8_count_14 {d was text ord why son tri : aF} {sta typ at_ sig fst snd rea lef top shf arr goo shn trs : Int32} {nA nH nO : Nat} (hw : wD d nA nH nO) (hi : wI d nO) : ∃ (lef' top' shf' arr' goo' : Int32) (ord' why' son' tri' : aF) (trs' : Int32), mCt k_X8_count [.ref 0, .int 14] (mH d was sta text typ at_ sig fst snd rea lef top shf arr goo ord why son shn tri trs) (some (.int (d 7))) (mH (d) was sta text typ at_ sig fst snd rea (lef') (top') (shf') (arr') (goo') (ord') (why') (son') ((p_all (d) nA nH nO).2.2) (tri') (trs')) := by
  obtain ⟨l1, t1, s1, a1, o1, d1, y1, n1, r1, z1, e1, e2, e3, hj⟩ := C_X8_shows (d := d) (was := was) (sta := sta) (shn := shn) (text := text) (typ := typ) (at_ := at_) (sig := sig) (fst := fst) (snd := snd) (rea := rea) (lef := lef) (top := top) (shf := shf) (arr := arr) (goo := goo) (ord := ord) (why := why) (son := son) (tri := tri) (trs := trs) hw hi
  obtain ⟨w1, w2, w3, w4, w5, w6, w7, w8, w9, w10⟩ := id hw
  refine ⟨l1, t1, s1, a1, o1, d1, y1, n1, r1, z1, ?_⟩
  refine mCt_intro (plainFor_of_name rfl) (Nat.le_of_ble_eq_true rfl) (m_all rfl) (ls := [_, _, _, _]) rfl ?_
  refine mJ_aload_n dX8_count_0 rfl ?_
  refine mJ_cV0v dX8_count_1 e_X8_shows n_X8_112 ⟨Nat.le_of_ble_eq_true rfl, Nat.le_of_ble_eq_true rfl⟩ rfl rfl (Nat.le_of_ble_eq_true rfl) (hj) ?_
  refine mJ_iconst (v := 0) dX8_count_4 rfl ?_
  refine mJ_istore_n dX8_count_5 (Nat.le_of_ble_eq_true rfl) (ls2 := [_, _, _, _]) rfl ?_
  refine mJ_iconst (v := 0) dX8_count_6 rfl ?_
  refine mJ_istore_n dX8_count_7 (Nat.le_of_ble_eq_true rfl) (ls2 := [_, _, _, _]) rfl ?_
  refine L_X8_count w5 w2 ?_ nH 0 (by omega)
  refine mJ_iload_n dX8_count_47 rfl ?_
  refine mJ_tin 185 dX8_count_48 (by decide) (by decide) rfl rfl ?_
  refine mJ_aload_n dX8_count_185 rfl ?_
  refine mJ_get dX8_count_186 f_X8_7 rfl rfl ?_
  refine mJ_iload_n dX8_count_189 rfl ?_
  refine mJ_bipush (v := 7) dX8_count_190 rfl ?_
  refine mJ_isub dX8_count_192 ?_
  refine mJ_ialdN dX8_count_193 rfl (j := 7) ⟨by decide, by decide, by decide⟩ ?_
  exact mJ_iret dX8_count_194 rfl (rfl) (rfl)
set_option maxHeartbeats 4000000 in
set_option maxRecDepth 100000 in
theorem C_X8_count_15 {d was text ord why son tri : aF} {sta typ at_ sig fst snd rea lef top shf arr goo shn trs : Int32} {nA nH nO : Nat} (hw : wD d nA nH nO) (hi : wI d nO) : ∃ (lef' top' shf' arr' goo' : Int32) (ord' why' son' tri' : aF) (trs' : Int32), mCt k_X8_count [.ref 0, .int 15] (mH d was sta text typ at_ sig fst snd rea lef top shf arr goo ord why son shn tri trs) (some (.int (d 8))) (mH (d) was sta text typ at_ sig fst snd rea (lef') (top') (shf') (arr') (goo') (ord') (why') (son') ((p_all (d) nA nH nO).2.2) (tri') (trs')) := by
  obtain ⟨l1, t1, s1, a1, o1, d1, y1, n1, r1, z1, e1, e2, e3, hj⟩ := C_X8_shows (d := d) (was := was) (sta := sta) (shn := shn) (text := text) (typ := typ) (at_ := at_) (sig := sig) (fst := fst) (snd := snd) (rea := rea) (lef := lef) (top := top) (shf := shf) (arr := arr) (goo := goo) (ord := ord) (why := why) (son := son) (tri := tri) (trs := trs) hw hi
  obtain ⟨w1, w2, w3, w4, w5, w6, w7, w8, w9, w10⟩ := id hw
  refine ⟨l1, t1, s1, a1, o1, d1, y1, n1, r1, z1, ?_⟩
  refine mCt_intro (plainFor_of_name rfl) (Nat.le_of_ble_eq_true rfl) (m_all rfl) (ls := [_, _, _, _]) rfl ?_
  refine mJ_aload_n dX8_count_0 rfl ?_
  refine mJ_cV0v dX8_count_1 e_X8_shows n_X8_112 ⟨Nat.le_of_ble_eq_true rfl, Nat.le_of_ble_eq_true rfl⟩ rfl rfl (Nat.le_of_ble_eq_true rfl) (hj) ?_
  refine mJ_iconst (v := 0) dX8_count_4 rfl ?_
  refine mJ_istore_n dX8_count_5 (Nat.le_of_ble_eq_true rfl) (ls2 := [_, _, _, _]) rfl ?_
  refine mJ_iconst (v := 0) dX8_count_6 rfl ?_
  refine mJ_istore_n dX8_count_7 (Nat.le_of_ble_eq_true rfl) (ls2 := [_, _, _, _]) rfl ?_
  refine L_X8_count w5 w2 ?_ nH 0 (by omega)
  refine mJ_iload_n dX8_count_47 rfl ?_
  refine mJ_tin 185 dX8_count_48 (by decide) (by decide) rfl rfl ?_
  refine mJ_aload_n dX8_count_185 rfl ?_
  refine mJ_get dX8_count_186 f_X8_7 rfl rfl ?_
  refine mJ_iload_n dX8_count_189 rfl ?_
  refine mJ_bipush (v := 7) dX8_count_190 rfl ?_
  refine mJ_isub dX8_count_192 ?_
  refine mJ_ialdN dX8_count_193 rfl (j := 8) ⟨by decide, by decide, by decide⟩ ?_
  exact mJ_iret dX8_count_194 rfl (rfl) (rfl)
set_option maxHeartbeats 4000000 in
set_option maxRecDepth 100000 in
theorem C_X8_count_16 {d was text ord why son tri : aF} {sta typ at_ sig fst snd rea lef top shf arr goo shn trs : Int32} {nA nH nO : Nat} (hw : wD d nA nH nO) (hi : wI d nO) : ∃ (lef' top' shf' arr' goo' : Int32) (ord' why' son' tri' : aF) (trs' : Int32), mCt k_X8_count [.ref 0, .int 16] (mH d was sta text typ at_ sig fst snd rea lef top shf arr goo ord why son shn tri trs) (some (.int (cS (fun k => ¬ (p_all d nA nH nO).2.1 k = -1) (fun k => dH d k 1 * dH d k 2) nH))) (mH (d) was sta text typ at_ sig fst snd rea (lef') (top') (shf') (arr') (goo') (ord') (why') (son') ((p_all (d) nA nH nO).2.2) (tri') (trs')) := by
  obtain ⟨l1, t1, s1, a1, o1, d1, y1, n1, r1, z1, e1, e2, e3, hj⟩ := C_X8_shows (d := d) (was := was) (sta := sta) (shn := shn) (text := text) (typ := typ) (at_ := at_) (sig := sig) (fst := fst) (snd := snd) (rea := rea) (lef := lef) (top := top) (shf := shf) (arr := arr) (goo := goo) (ord := ord) (why := why) (son := son) (tri := tri) (trs := trs) hw hi
  obtain ⟨w1, w2, w3, w4, w5, w6, w7, w8, w9, w10⟩ := id hw
  refine ⟨l1, t1, s1, a1, o1, d1, y1, n1, r1, z1, ?_⟩
  refine mCt_intro (plainFor_of_name rfl) (Nat.le_of_ble_eq_true rfl) (m_all rfl) (ls := [_, _, _, _]) rfl ?_
  refine mJ_aload_n dX8_count_0 rfl ?_
  refine mJ_cV0v dX8_count_1 e_X8_shows n_X8_112 ⟨Nat.le_of_ble_eq_true rfl, Nat.le_of_ble_eq_true rfl⟩ rfl rfl (Nat.le_of_ble_eq_true rfl) (hj) ?_
  refine mJ_iconst (v := 0) dX8_count_4 rfl ?_
  refine mJ_istore_n dX8_count_5 (Nat.le_of_ble_eq_true rfl) (ls2 := [_, _, _, _]) rfl ?_
  refine mJ_iconst (v := 0) dX8_count_6 rfl ?_
  refine mJ_istore_n dX8_count_7 (Nat.le_of_ble_eq_true rfl) (ls2 := [_, _, _, _]) rfl ?_
  refine L_X8_count w5 w2 ?_ nH 0 (by omega)
  refine mJ_iload_n dX8_count_47 rfl ?_
  refine mJ_tin 195 dX8_count_48 (by decide) (by decide) rfl rfl ?_
  refine mJ_aload_n dX8_count_195 rfl ?_
  refine mJ_iload_n dX8_count_196 rfl ?_
  refine mJ_bipush (v := 17) dX8_count_197 rfl ?_
  refine mJ_icmp_ne 206 dX8_count_199 rfl (fun _ => ?_) (fun c => absurd c (by decide))
  refine mJ_iconst (v := 0) dX8_count_206 rfl ?_
  refine mJ_cV1i dX8_count_207 e_X8_covered n_X8_134 ⟨Nat.le_of_ble_eq_true rfl, Nat.le_of_ble_eq_true rfl⟩ rfl rfl (Nat.le_of_ble_eq_true rfl) (C_X8_covered_0 w5 w2) ?_
  exact mJ_iret dX8_count_210 rfl (by rw [show cS (fun k => ¬ (p_all d nA nH nO).2.1 k = -1) (fun k => dH d k 1 * dH d k 2) nH = _ from cS_congr (P := (fun k => ¬ (p_all d nA nH nO).2.1 k = -1)) (Q := fun k => ¬ n1 k = -1) (fun j hj => by rw [e3 j (by omega)]) (fun j hj => rfl)]) (rfl)
set_option maxHeartbeats 4000000 in
set_option maxRecDepth 100000 in
theorem C_X8_count_17 {d was text ord why son tri : aF} {sta typ at_ sig fst snd rea lef top shf arr goo shn trs : Int32} {nA nH nO : Nat} (hw : wD d nA nH nO) (hi : wI d nO) : ∃ (lef' top' shf' arr' goo' : Int32) (ord' why' son' tri' : aF) (trs' : Int32), mCt k_X8_count [.ref 0, .int 17] (mH d was sta text typ at_ sig fst snd rea lef top shf arr goo ord why son shn tri trs) (some (.int (cP (fun k => ¬ (p_all d nA nH nO).2.1 k = -1) nH))) (mH (d) was sta text typ at_ sig fst snd rea (lef') (top') (shf') (arr') (goo') (ord') (why') (son') ((p_all (d) nA nH nO).2.2) (tri') (trs')) := by
  obtain ⟨l1, t1, s1, a1, o1, d1, y1, n1, r1, z1, e1, e2, e3, hj⟩ := C_X8_shows (d := d) (was := was) (sta := sta) (shn := shn) (text := text) (typ := typ) (at_ := at_) (sig := sig) (fst := fst) (snd := snd) (rea := rea) (lef := lef) (top := top) (shf := shf) (arr := arr) (goo := goo) (ord := ord) (why := why) (son := son) (tri := tri) (trs := trs) hw hi
  obtain ⟨w1, w2, w3, w4, w5, w6, w7, w8, w9, w10⟩ := id hw
  refine ⟨l1, t1, s1, a1, o1, d1, y1, n1, r1, z1, ?_⟩
  refine mCt_intro (plainFor_of_name rfl) (Nat.le_of_ble_eq_true rfl) (m_all rfl) (ls := [_, _, _, _]) rfl ?_
  refine mJ_aload_n dX8_count_0 rfl ?_
  refine mJ_cV0v dX8_count_1 e_X8_shows n_X8_112 ⟨Nat.le_of_ble_eq_true rfl, Nat.le_of_ble_eq_true rfl⟩ rfl rfl (Nat.le_of_ble_eq_true rfl) (hj) ?_
  refine mJ_iconst (v := 0) dX8_count_4 rfl ?_
  refine mJ_istore_n dX8_count_5 (Nat.le_of_ble_eq_true rfl) (ls2 := [_, _, _, _]) rfl ?_
  refine mJ_iconst (v := 0) dX8_count_6 rfl ?_
  refine mJ_istore_n dX8_count_7 (Nat.le_of_ble_eq_true rfl) (ls2 := [_, _, _, _]) rfl ?_
  refine L_X8_count w5 w2 ?_ nH 0 (by omega)
  refine mJ_iload_n dX8_count_47 rfl ?_
  refine mJ_tin 195 dX8_count_48 (by decide) (by decide) rfl rfl ?_
  refine mJ_aload_n dX8_count_195 rfl ?_
  refine mJ_iload_n dX8_count_196 rfl ?_
  refine mJ_bipush (v := 17) dX8_count_197 rfl ?_
  refine mJ_icmp_ne 206 dX8_count_199 rfl (fun c => absurd c (by decide)) (fun _ => ?_)
  refine mJ_iconst (v := 1) dX8_count_202 rfl ?_
  refine mJ_goto 207 dX8_count_203 rfl ?_
  refine mJ_cV1i dX8_count_207 e_X8_covered n_X8_134 ⟨Nat.le_of_ble_eq_true rfl, Nat.le_of_ble_eq_true rfl⟩ rfl rfl (Nat.le_of_ble_eq_true rfl) (C_X8_covered_1 w5 w2) ?_
  exact mJ_iret dX8_count_210 rfl (by rw [show cP (fun k => ¬ (p_all d nA nH nO).2.1 k = -1) nH = _ from cP_congr (P := (fun k => ¬ (p_all d nA nH nO).2.1 k = -1)) (Q := fun k => ¬ n1 k = -1) (fun j hj => by rw [e3 j (by omega)])]) (rfl)
set_option maxHeartbeats 4000000 in
set_option maxRecDepth 100000 in
theorem C_X8_count_bad {d was text ord why son tri : aF} {sta typ at_ sig fst snd rea lef top shf arr goo shn trs : Int32} {nA nH nO : Nat} (hw : wD d nA nH nO) (hi : wI d nO) {v : Int32} (hb : ¬ q_rg v 0 17) : ∃ (lef' top' shf' arr' goo' : Int32) (ord' why' son' tri' : aF) (trs' : Int32), mCt k_X8_count [.ref 0, .int v] (mH d was sta text typ at_ sig fst snd rea lef top shf arr goo ord why son shn tri trs) (some (.int (-10001))) (mH (d) was sta text typ at_ sig fst snd rea (lef') (top') (shf') (arr') (goo') (ord') (why') (son') ((p_all (d) nA nH nO).2.2) (tri') (trs')) := by
  obtain ⟨l1, t1, s1, a1, o1, d1, y1, n1, r1, z1, e1, e2, e3, hj⟩ := C_X8_shows (d := d) (was := was) (sta := sta) (shn := shn) (text := text) (typ := typ) (at_ := at_) (sig := sig) (fst := fst) (snd := snd) (rea := rea) (lef := lef) (top := top) (shf := shf) (arr := arr) (goo := goo) (ord := ord) (why := why) (son := son) (tri := tri) (trs := trs) hw hi
  obtain ⟨w1, w2, w3, w4, w5, w6, w7, w8, w9, w10⟩ := id hw
  refine ⟨l1, t1, s1, a1, o1, d1, y1, n1, r1, z1, ?_⟩
  refine mCt_intro (plainFor_of_name rfl) (Nat.le_of_ble_eq_true rfl) (m_all rfl) (ls := [_, _, _, _]) rfl ?_
  refine mJ_aload_n dX8_count_0 rfl ?_
  refine mJ_cV0v dX8_count_1 e_X8_shows n_X8_112 ⟨Nat.le_of_ble_eq_true rfl, Nat.le_of_ble_eq_true rfl⟩ rfl rfl (Nat.le_of_ble_eq_true rfl) (hj) ?_
  refine mJ_iconst (v := 0) dX8_count_4 rfl ?_
  refine mJ_istore_n dX8_count_5 (Nat.le_of_ble_eq_true rfl) (ls2 := [_, _, _, _]) rfl ?_
  refine mJ_iconst (v := 0) dX8_count_6 rfl ?_
  refine mJ_istore_n dX8_count_7 (Nat.le_of_ble_eq_true rfl) (ls2 := [_, _, _, _]) rfl ?_
  refine L_X8_count w5 w2 ?_ nH 0 (by omega)
  refine mJ_iload_n dX8_count_47 rfl ?_
  refine mJ_case 0 (fun s_48_0 => ?_) (fun s_48_0 => ?_)
  · exact False.elim (by exact hb (by rw [s_48_0]; exact ⟨by decide, by decide⟩))
  refine mJ_case 1 (fun s_48_1 => ?_) (fun s_48_1 => ?_)
  · exact False.elim (by exact hb (by rw [s_48_1]; exact ⟨by decide, by decide⟩))
  refine mJ_case 2 (fun s_48_2 => ?_) (fun s_48_2 => ?_)
  · exact False.elim (by exact hb (by rw [s_48_2]; exact ⟨by decide, by decide⟩))
  refine mJ_case 3 (fun s_48_3 => ?_) (fun s_48_3 => ?_)
  · exact False.elim (by exact hb (by rw [s_48_3]; exact ⟨by decide, by decide⟩))
  refine mJ_case 4 (fun s_48_4 => ?_) (fun s_48_4 => ?_)
  · exact False.elim (by exact hb (by rw [s_48_4]; exact ⟨by decide, by decide⟩))
  refine mJ_case 5 (fun s_48_5 => ?_) (fun s_48_5 => ?_)
  · exact False.elim (by exact hb (by rw [s_48_5]; exact ⟨by decide, by decide⟩))
  refine mJ_case 6 (fun s_48_6 => ?_) (fun s_48_6 => ?_)
  · exact False.elim (by exact hb (by rw [s_48_6]; exact ⟨by decide, by decide⟩))
  refine mJ_case 7 (fun s_48_7 => ?_) (fun s_48_7 => ?_)
  · exact False.elim (by exact hb (by rw [s_48_7]; exact ⟨by decide, by decide⟩))
  refine mJ_case 8 (fun s_48_8 => ?_) (fun s_48_8 => ?_)
  · exact False.elim (by exact hb (by rw [s_48_8]; exact ⟨by decide, by decide⟩))
  refine mJ_case 9 (fun s_48_9 => ?_) (fun s_48_9 => ?_)
  · exact False.elim (by exact hb (by rw [s_48_9]; exact ⟨by decide, by decide⟩))
  refine mJ_case 10 (fun s_48_10 => ?_) (fun s_48_10 => ?_)
  · exact False.elim (by exact hb (by rw [s_48_10]; exact ⟨by decide, by decide⟩))
  refine mJ_case 11 (fun s_48_11 => ?_) (fun s_48_11 => ?_)
  · exact False.elim (by exact hb (by rw [s_48_11]; exact ⟨by decide, by decide⟩))
  refine mJ_case 12 (fun s_48_12 => ?_) (fun s_48_12 => ?_)
  · exact False.elim (by exact hb (by rw [s_48_12]; exact ⟨by decide, by decide⟩))
  refine mJ_case 13 (fun s_48_13 => ?_) (fun s_48_13 => ?_)
  · exact False.elim (by exact hb (by rw [s_48_13]; exact ⟨by decide, by decide⟩))
  refine mJ_case 14 (fun s_48_14 => ?_) (fun s_48_14 => ?_)
  · exact False.elim (by exact hb (by rw [s_48_14]; exact ⟨by decide, by decide⟩))
  refine mJ_case 15 (fun s_48_15 => ?_) (fun s_48_15 => ?_)
  · exact False.elim (by exact hb (by rw [s_48_15]; exact ⟨by decide, by decide⟩))
  refine mJ_case 16 (fun s_48_16 => ?_) (fun s_48_16 => ?_)
  · exact False.elim (by exact hb (by rw [s_48_16]; exact ⟨by decide, by decide⟩))
  refine mJ_case 17 (fun s_48_17 => ?_) (fun s_48_17 => ?_)
  · exact False.elim (by exact hb (by rw [s_48_17]; exact ⟨by decide, by decide⟩))
  refine mJ_tout 211 dX8_count_48 (m_out (fun z z1 z2 z3 => ?_)) rfl ?_
  · rcases (show z = 0 ∨ z = 1 ∨ z = 2 ∨ z = 3 ∨ z = 4 ∨ z = 5 ∨ z = 6 ∨ z = 7 ∨ z = 8 ∨ z = 9 ∨ z = 10 ∨ z = 11 ∨ z = 12 ∨ z = 13 ∨ z = 14 ∨ z = 15 ∨ z = 16 ∨ z = 17 by omega) with rfl | rfl | rfl | rfl | rfl | rfl | rfl | rfl | rfl | rfl | rfl | rfl | rfl | rfl | rfl | rfl | rfl | rfl
    · exact s_48_0 (Int32.toInt_inj.mp z3)
    · exact s_48_1 (Int32.toInt_inj.mp z3)
    · exact s_48_2 (Int32.toInt_inj.mp z3)
    · exact s_48_3 (Int32.toInt_inj.mp z3)
    · exact s_48_4 (Int32.toInt_inj.mp z3)
    · exact s_48_5 (Int32.toInt_inj.mp z3)
    · exact s_48_6 (Int32.toInt_inj.mp z3)
    · exact s_48_7 (Int32.toInt_inj.mp z3)
    · exact s_48_8 (Int32.toInt_inj.mp z3)
    · exact s_48_9 (Int32.toInt_inj.mp z3)
    · exact s_48_10 (Int32.toInt_inj.mp z3)
    · exact s_48_11 (Int32.toInt_inj.mp z3)
    · exact s_48_12 (Int32.toInt_inj.mp z3)
    · exact s_48_13 (Int32.toInt_inj.mp z3)
    · exact s_48_14 (Int32.toInt_inj.mp z3)
    · exact s_48_15 (Int32.toInt_inj.mp z3)
    · exact s_48_16 (Int32.toInt_inj.mp z3)
    · exact s_48_17 (Int32.toInt_inj.mp z3)
  · refine mJ_sipush (v := (-10001)) dX8_count_211 rfl ?_
    exact mJ_iret dX8_count_214 rfl (rfl) (rfl)
set_option maxHeartbeats 4000000 in
set_option maxRecDepth 100000 in
theorem C_X8_anchorOf_bad {d was text ord why son tri : aF} {sta typ at_ sig fst snd rea lef top shf arr goo shn trs : Int32} {a w : Int32} (hb : ¬ (q_rg a 0 (d 9 - 1) ∧ q_rg w 0 6)) : mCt k_X8_anchorOf [.ref 0, .int a, .int w] (mH d was sta text typ at_ sig fst snd rea lef top shf arr goo ord why son shn tri trs) (some (.int (-10001))) (mH d was sta text typ at_ sig fst snd rea lef top shf arr goo ord why son shn tri trs) := by
  refine mCt_intro (plainFor_of_name rfl) (Nat.le_of_ble_eq_true rfl) (m_all rfl) (ls := [_, _, _, _, _]) rfl ?_
  refine mJ_aload_n dX8_anchorOf_0 rfl ?_
  refine mJ_iload_n dX8_anchorOf_1 rfl ?_
  refine mJ_cV1i dX8_anchorOf_2 e_X8_isAnchor n_X8_125 ⟨Nat.le_of_ble_eq_true rfl, Nat.le_of_ble_eq_true rfl⟩ rfl rfl (Nat.le_of_ble_eq_true rfl) (C_X8_isAnchor) ?_
  refine mJ_b2i (fun b_2 => ?_) (fun b_2 => ?_)
  · refine mJ_if_eq 18 dX8_anchorOf_5 rfl (fun c => absurd c (by decide)) (fun _ => ?_)
    refine mJ_iload_n dX8_anchorOf_8 rfl ?_
    refine mJ_iconst (v := 0) dX8_anchorOf_9 rfl ?_
    refine mJ_bipush (v := 6) dX8_anchorOf_10 rfl ?_
    refine mJ_cS3i dX8_anchorOf_12 e_X8_in n_X8_32 ⟨Nat.le_of_ble_eq_true rfl, Nat.le_of_ble_eq_true rfl⟩ (Nat.le_of_ble_eq_true rfl) (C_X8_in) ?_
    refine mJ_b2i (fun b_12 => ?_) (fun b_12 => ?_)
    · exact False.elim (by exact hb ⟨b_2, b_12⟩)
    · refine mJ_if_ne 22 dX8_anchorOf_15 rfl (fun c => absurd c (by decide)) (fun _ => ?_)
      refine mJ_sipush (v := (-10001)) dX8_anchorOf_18 rfl ?_
      exact mJ_iret dX8_anchorOf_21 rfl (rfl) (rfl)
  · refine mJ_if_eq 18 dX8_anchorOf_5 rfl (fun _ => ?_) (fun c => absurd c (by decide))
    refine mJ_sipush (v := (-10001)) dX8_anchorOf_18 rfl ?_
    exact mJ_iret dX8_anchorOf_21 rfl (rfl) (rfl)
set_option maxHeartbeats 4000000 in
set_option maxRecDepth 100000 in
theorem C_X8_anchorOf_w {d was text ord why son tri : aF} {sta typ at_ sig fst snd rea lef top shf arr goo shn trs : Int32}  {a w : Nat} (ha : a < 10) (h1 : q_rg (nI a) 0 (d 9 - 1)) (hw4 : w < 4) : mCt k_X8_anchorOf [.ref 0, .int (nI a), .int (nI w)] (mH d was sta text typ at_ sig fst snd rea lef top shf arr goo ord why son shn tri trs) (some (.int (dA d a w))) (mH (d) (was) (sta) text typ at_ sig fst snd rea lef top shf arr goo ord why son shn tri trs) := by
  refine mCt_intro (plainFor_of_name rfl) (Nat.le_of_ble_eq_true rfl) (m_all rfl) (ls := [_, _, _, _, _]) rfl ?_
  refine mJ_aload_n dX8_anchorOf_0 rfl ?_
  refine mJ_iload_n dX8_anchorOf_1 rfl ?_
  refine mJ_cV1i dX8_anchorOf_2 e_X8_isAnchor n_X8_125 ⟨Nat.le_of_ble_eq_true rfl, Nat.le_of_ble_eq_true rfl⟩ rfl rfl (Nat.le_of_ble_eq_true rfl) (C_X8_isAnchor) ?_
  refine mJ_top (b2i_t h1) ?_
  refine mJ_if_eq 18 dX8_anchorOf_5 rfl (fun c => absurd c (by decide)) (fun _ => ?_)
  refine mJ_iload_n dX8_anchorOf_8 rfl ?_
  refine mJ_iconst (v := 0) dX8_anchorOf_9 rfl ?_
  refine mJ_bipush (v := 6) dX8_anchorOf_10 rfl ?_
  refine mJ_cS3i dX8_anchorOf_12 e_X8_in n_X8_32 ⟨Nat.le_of_ble_eq_true rfl, Nat.le_of_ble_eq_true rfl⟩ (Nat.le_of_ble_eq_true rfl) (C_X8_in) ?_
  refine mJ_top (b2i_t ⟨nI_pos (by omega), nI_nlt (a := 6) (b := w) (by omega) (by omega)⟩) ?_
  refine mJ_if_ne 22 dX8_anchorOf_15 rfl (fun _ => ?_) (fun c => absurd c (by decide))
  refine mJ_iload_n dX8_anchorOf_22 rfl ?_
  refine mJ_iconst (v := 4) dX8_anchorOf_23 rfl ?_
  refine mJ_icmp_ge 34 dX8_anchorOf_24 rfl (fun c_24 => False.elim (by exact nI_ge (b := 4) hw4 (by omega) c_24)) (fun c_24 => ?_)
  refine mJ_aload_n dX8_anchorOf_27 rfl ?_
  refine mJ_iload_n dX8_anchorOf_28 rfl ?_
  refine mJ_iload_n dX8_anchorOf_29 rfl ?_
  refine mJ_cV2i dX8_anchorOf_30 e_X8_ofAnchor n_X8_40 ⟨Nat.le_of_ble_eq_true rfl, Nat.le_of_ble_eq_true rfl⟩ rfl rfl (Nat.le_of_ble_eq_true rfl) (C_X8_ofAnchor ha hw4) ?_
  exact mJ_iret dX8_anchorOf_33 rfl (rfl) (rfl)
set_option maxHeartbeats 4000000 in
set_option maxRecDepth 100000 in
theorem C_X8_anchorOf_4 {d was text ord why son tri : aF} {sta typ at_ sig fst snd rea lef top shf arr goo shn trs : Int32}  {a : Nat} (ha : a < 10) (h1 : q_rg (nI a) 0 (d 9 - 1)) : mCt k_X8_anchorOf [.ref 0, .int (nI a), .int 4] (mH d was sta text typ at_ sig fst snd rea lef top shf arr goo ord why son shn tri trs) (some (.int (b2i (q_sn d a)))) (mH (d) (was) (sta) text typ at_ sig fst snd rea lef top shf arr goo ord why son shn tri trs) := by
  refine mCt_intro (plainFor_of_name rfl) (Nat.le_of_ble_eq_true rfl) (m_all rfl) (ls := [_, _, _, _, _]) rfl ?_
  refine mJ_aload_n dX8_anchorOf_0 rfl ?_
  refine mJ_iload_n dX8_anchorOf_1 rfl ?_
  refine mJ_cV1i dX8_anchorOf_2 e_X8_isAnchor n_X8_125 ⟨Nat.le_of_ble_eq_true rfl, Nat.le_of_ble_eq_true rfl⟩ rfl rfl (Nat.le_of_ble_eq_true rfl) (C_X8_isAnchor) ?_
  refine mJ_top (b2i_t h1) ?_
  refine mJ_if_eq 18 dX8_anchorOf_5 rfl (fun c => absurd c (by decide)) (fun _ => ?_)
  refine mJ_iload_n dX8_anchorOf_8 rfl ?_
  refine mJ_iconst (v := 0) dX8_anchorOf_9 rfl ?_
  refine mJ_bipush (v := 6) dX8_anchorOf_10 rfl ?_
  refine mJ_cS3i dX8_anchorOf_12 e_X8_in n_X8_32 ⟨Nat.le_of_ble_eq_true rfl, Nat.le_of_ble_eq_true rfl⟩ (Nat.le_of_ble_eq_true rfl) (C_X8_in) ?_
  refine mJ_top (b2i_t ⟨by decide, by decide⟩) ?_
  refine mJ_if_ne 22 dX8_anchorOf_15 rfl (fun _ => ?_) (fun c => absurd c (by decide))
  refine mJ_iload_n dX8_anchorOf_22 rfl ?_
  refine mJ_iconst (v := 4) dX8_anchorOf_23 rfl ?_
  refine mJ_icmp_ge 34 dX8_anchorOf_24 rfl (fun _ => ?_) (fun c => absurd c (by decide))
  refine mJ_iload_n dX8_anchorOf_34 rfl ?_
  refine mJ_iconst (v := 4) dX8_anchorOf_35 rfl ?_
  refine mJ_icmp_ne 53 dX8_anchorOf_36 rfl (fun c => absurd c (by decide)) (fun _ => ?_)
  refine mJ_aload_n dX8_anchorOf_39 rfl ?_
  refine mJ_iload_n dX8_anchorOf_40 rfl ?_
  refine mJ_cV1i dX8_anchorOf_41 e_X8_isSeen n_X8_106 ⟨Nat.le_of_ble_eq_true rfl, Nat.le_of_ble_eq_true rfl⟩ rfl rfl (Nat.le_of_ble_eq_true rfl) (C_X8_isSeen ha) ?_
  refine mJ_b2i (fun b_41 => ?_) (fun b_41 => ?_)
  · refine mJ_if_eq 51 dX8_anchorOf_44 rfl (fun c => absurd c (by decide)) (fun _ => ?_)
    refine mJ_iconst (v := 1) dX8_anchorOf_47 rfl ?_
    refine mJ_goto 52 dX8_anchorOf_48 rfl ?_
    exact mJ_iret dX8_anchorOf_52 rfl (z_t b_41) (rfl)
  · refine mJ_if_eq 51 dX8_anchorOf_44 rfl (fun _ => ?_) (fun c => absurd c (by decide))
    refine mJ_iconst (v := 0) dX8_anchorOf_51 rfl ?_
    exact mJ_iret dX8_anchorOf_52 rfl (z_f b_41) (rfl)
set_option maxHeartbeats 4000000 in
set_option maxRecDepth 100000 in
theorem L_X8_anchorOf_5 {d was text ord why son tri : aF} {sta typ at_ sig fst snd rea lef top shf arr goo shn trs : Int32} {nH : Nat} (hH : d 50 = nI nH) (hl : nH ≤ 12) {a : Nat} : ∀ (m k : Nat), k + m = nH → mJ k_X8_anchorOf 62 [.ref 0, .int (nI a), .int 5, .int (cP (fun k => dH d k 0 = nI a) k), .int (nI k)] [] (mH d was sta text typ at_ sig fst snd rea lef top shf arr goo ord why son shn tri trs) (some (.int (cP (fun k => dH d k 0 = nI a) nH))) (mH d was sta text typ at_ sig fst snd rea lef top shf arr goo ord why son shn tri trs) := by
  intro m
  induction m with
  | zero =>
    intro k hk
    refine mJ_iload dX8_anchorOf_62 rfl ?_
    refine mJ_aload_n dX8_anchorOf_64 rfl ?_
    refine mJ_get dX8_anchorOf_65 f_X8_7 rfl rfl ?_
    refine mJ_bipush (v := 50) dX8_anchorOf_68 rfl ?_
    refine mJ_ialdN dX8_anchorOf_70 rfl (j := 50) ⟨rfl, by decide, by decide⟩ ?_
    refine mJ_icmp_ge 115 dX8_anchorOf_71 rfl (fun c_71 => ?_) (fun c_71 => False.elim (by exact c_71 (by rw [hH, show k = nH by omega]; exact Int32.le_refl _)))
    refine mJ_iload_n dX8_anchorOf_115 rfl ?_
    exact mJ_iret dX8_anchorOf_116 rfl (by rw [show k = nH by omega]) (rfl)
  | succ m ih =>
    intro k hk
    refine mJ_iload dX8_anchorOf_62 rfl ?_
    refine mJ_aload_n dX8_anchorOf_64 rfl ?_
    refine mJ_get dX8_anchorOf_65 f_X8_7 rfl rfl ?_
    refine mJ_bipush (v := 50) dX8_anchorOf_68 rfl ?_
    refine mJ_ialdN dX8_anchorOf_70 rfl (j := 50) ⟨rfl, by decide, by decide⟩ ?_
    refine mJ_icmp_ge 115 dX8_anchorOf_71 rfl (fun c_71 => False.elim (by rw [hH] at c_71; exact nI_ge (show k < nH by omega) (by omega) c_71)) (fun c_71 => ?_)
    refine mJ_iload_n dX8_anchorOf_74 rfl ?_
    refine mJ_aload_n dX8_anchorOf_75 rfl ?_
    refine mJ_iload dX8_anchorOf_76 rfl ?_
    refine mJ_iconst (v := 0) dX8_anchorOf_78 rfl ?_
    refine mJ_cV2i dX8_anchorOf_79 e_X8_ofHint n_X8_52 ⟨Nat.le_of_ble_eq_true rfl, Nat.le_of_ble_eq_true rfl⟩ rfl rfl (Nat.le_of_ble_eq_true rfl) (C_X8_ofHint (w := 0) (show k < 12 by omega) (by decide)) ?_
    refine mJ_iload_n dX8_anchorOf_82 rfl ?_
    refine mJ_icmp_ne 106 dX8_anchorOf_83 rfl (fun c_83 => ?_) (fun c_83 => ?_)
    · refine mJ_iconst (v := 0) dX8_anchorOf_106 rfl ?_
      refine mJ_iadd dX8_anchorOf_107 ?_
      refine mJ_top (Int32.add_zero _) ?_
      refine mJ_istore_n dX8_anchorOf_108 (Nat.le_of_ble_eq_true rfl) (ls2 := [_, _, _, _, _]) rfl ?_
      refine mJ_iinc dX8_anchorOf_109 rfl (Nat.le_of_ble_eq_true rfl) (v := nI (k + 1)) (nI_1 k) (ls2 := [_, _, _, _, _]) rfl ?_
      refine mJ_goto 62 dX8_anchorOf_112 rfl ?_
      rw [show cP (fun k => dH d k 0 = nI a) k = cP (fun k => dH d k 0 = nI a) (k + 1) from (iif_f c_83).symm]
      exact ih (k + 1) (by omega)
    · refine mJ_iload_n dX8_anchorOf_86 rfl ?_
      refine mJ_iconst (v := 5) dX8_anchorOf_87 rfl ?_
      refine mJ_icmp_eq 102 dX8_anchorOf_88 rfl (fun _ => ?_) (fun c => absurd c (by decide))
      refine mJ_iconst (v := 1) dX8_anchorOf_102 rfl ?_
      refine mJ_goto 107 dX8_anchorOf_103 rfl ?_
      refine mJ_iadd dX8_anchorOf_107 ?_
      refine mJ_istore_n dX8_anchorOf_108 (Nat.le_of_ble_eq_true rfl) (ls2 := [_, _, _, _, _]) rfl ?_
      refine mJ_iinc dX8_anchorOf_109 rfl (Nat.le_of_ble_eq_true rfl) (v := nI (k + 1)) (nI_1 k) (ls2 := [_, _, _, _, _]) rfl ?_
      refine mJ_goto 62 dX8_anchorOf_112 rfl ?_
      rw [show cP (fun k => dH d k 0 = nI a) k + 1 = cP (fun k => dH d k 0 = nI a) (k + 1) from (iif_t c_83).symm]
      exact ih (k + 1) (by omega)
set_option maxHeartbeats 4000000 in
set_option maxRecDepth 100000 in
theorem C_X8_anchorOf_5 {d was text ord why son tri : aF} {sta typ at_ sig fst snd rea lef top shf arr goo shn trs : Int32} {nA nH nO : Nat} (hw : wD d nA nH nO) (hi : wI d nO) {a : Nat} (h1 : q_rg (nI a) 0 (d 9 - 1)) : ∃ (lef' top' shf' arr' goo' : Int32) (ord' why' son' tri' : aF) (trs' : Int32), mCt k_X8_anchorOf [.ref 0, .int (nI a), .int 5] (mH d was sta text typ at_ sig fst snd rea lef top shf arr goo ord why son shn tri trs) (some (.int (cP (fun k => dH d k 0 = nI a) nH))) (mH (d) was sta text typ at_ sig fst snd rea (lef') (top') (shf') (arr') (goo') (ord') (why') (son') ((p_all (d) nA nH nO).2.2) (tri') (trs')) := by
  obtain ⟨l1, t1, s1, a1, o1, d1, y1, n1, r1, z1, e1, e2, e3, hj⟩ := C_X8_shows (d := d) (was := was) (sta := sta) (shn := shn) (text := text) (typ := typ) (at_ := at_) (sig := sig) (fst := fst) (snd := snd) (rea := rea) (lef := lef) (top := top) (shf := shf) (arr := arr) (goo := goo) (ord := ord) (why := why) (son := son) (tri := tri) (trs := trs) hw hi
  obtain ⟨w1, w2, w3, w4, w5, w6, w7, w8, w9, w10⟩ := id hw
  have hc := L_X8_anchorOf_5 (d := d) (was := was) (sta := sta) (text := text) (typ := typ) (at_ := at_) (sig := sig) (fst := fst) (snd := snd) (rea := rea) (lef := l1) (top := t1) (shf := s1) (arr := a1) (goo := o1) (ord := d1) (why := y1) (son := n1) (shn := (p_all d nA nH nO).2.2) (tri := r1) (trs := z1) w5 w2 (a := a) nH 0 (by omega)
  refine ⟨l1, t1, s1, a1, o1, d1, y1, n1, r1, z1, ?_⟩
  refine mCt_intro (plainFor_of_name rfl) (Nat.le_of_ble_eq_true rfl) (m_all rfl) (ls := [_, _, _, _, _]) rfl ?_
  refine mJ_aload_n dX8_anchorOf_0 rfl ?_
  refine mJ_iload_n dX8_anchorOf_1 rfl ?_
  refine mJ_cV1i dX8_anchorOf_2 e_X8_isAnchor n_X8_125 ⟨Nat.le_of_ble_eq_true rfl, Nat.le_of_ble_eq_true rfl⟩ rfl rfl (Nat.le_of_ble_eq_true rfl) (C_X8_isAnchor) ?_
  refine mJ_top (b2i_t h1) ?_
  refine mJ_if_eq 18 dX8_anchorOf_5 rfl (fun c => absurd c (by decide)) (fun _ => ?_)
  refine mJ_iload_n dX8_anchorOf_8 rfl ?_
  refine mJ_iconst (v := 0) dX8_anchorOf_9 rfl ?_
  refine mJ_bipush (v := 6) dX8_anchorOf_10 rfl ?_
  refine mJ_cS3i dX8_anchorOf_12 e_X8_in n_X8_32 ⟨Nat.le_of_ble_eq_true rfl, Nat.le_of_ble_eq_true rfl⟩ (Nat.le_of_ble_eq_true rfl) (C_X8_in) ?_
  refine mJ_top (b2i_t ⟨by decide, by decide⟩) ?_
  refine mJ_if_ne 22 dX8_anchorOf_15 rfl (fun _ => ?_) (fun c => absurd c (by decide))
  refine mJ_iload_n dX8_anchorOf_22 rfl ?_
  refine mJ_iconst (v := 4) dX8_anchorOf_23 rfl ?_
  refine mJ_icmp_ge 34 dX8_anchorOf_24 rfl (fun _ => ?_) (fun c => absurd c (by decide))
  refine mJ_iload_n dX8_anchorOf_34 rfl ?_
  refine mJ_iconst (v := 4) dX8_anchorOf_35 rfl ?_
  refine mJ_icmp_ne 53 dX8_anchorOf_36 rfl (fun _ => ?_) (fun c => absurd c (by decide))
  refine mJ_aload_n dX8_anchorOf_53 rfl ?_
  refine mJ_cV0v dX8_anchorOf_54 e_X8_shows n_X8_112 ⟨Nat.le_of_ble_eq_true rfl, Nat.le_of_ble_eq_true rfl⟩ rfl rfl (Nat.le_of_ble_eq_true rfl) (hj) ?_
  refine mJ_iconst (v := 0) dX8_anchorOf_57 rfl ?_
  refine mJ_istore_n dX8_anchorOf_58 (Nat.le_of_ble_eq_true rfl) (ls2 := [_, _, _, _, _]) rfl ?_
  refine mJ_iconst (v := 0) dX8_anchorOf_59 rfl ?_
  refine mJ_istore dX8_anchorOf_60 (Nat.le_of_ble_eq_true rfl) (ls2 := [_, _, _, _, _]) rfl ?_
  exact hc
set_option maxHeartbeats 4000000 in
set_option maxRecDepth 100000 in
theorem L_X8_anchorOf_6 {d was text ord why son tri : aF} {sta typ at_ sig fst snd rea lef top shf arr goo shn trs : Int32} {nH : Nat} (hH : d 50 = nI nH) (hl : nH ≤ 12) {a : Nat} : ∀ (m k : Nat), k + m = nH → mJ k_X8_anchorOf 62 [.ref 0, .int (nI a), .int 6, .int (cP (fun k => dH d k 0 = nI a ∧ ¬ son k = -1) k), .int (nI k)] [] (mH d was sta text typ at_ sig fst snd rea lef top shf arr goo ord why son shn tri trs) (some (.int (cP (fun k => dH d k 0 = nI a ∧ ¬ son k = -1) nH))) (mH d was sta text typ at_ sig fst snd rea lef top shf arr goo ord why son shn tri trs) := by
  intro m
  induction m with
  | zero =>
    intro k hk
    refine mJ_iload dX8_anchorOf_62 rfl ?_
    refine mJ_aload_n dX8_anchorOf_64 rfl ?_
    refine mJ_get dX8_anchorOf_65 f_X8_7 rfl rfl ?_
    refine mJ_bipush (v := 50) dX8_anchorOf_68 rfl ?_
    refine mJ_ialdN dX8_anchorOf_70 rfl (j := 50) ⟨rfl, by decide, by decide⟩ ?_
    refine mJ_icmp_ge 115 dX8_anchorOf_71 rfl (fun c_71 => ?_) (fun c_71 => False.elim (by exact c_71 (by rw [hH, show k = nH by omega]; exact Int32.le_refl _)))
    refine mJ_iload_n dX8_anchorOf_115 rfl ?_
    exact mJ_iret dX8_anchorOf_116 rfl (by rw [show k = nH by omega]) (rfl)
  | succ m ih =>
    intro k hk
    refine mJ_iload dX8_anchorOf_62 rfl ?_
    refine mJ_aload_n dX8_anchorOf_64 rfl ?_
    refine mJ_get dX8_anchorOf_65 f_X8_7 rfl rfl ?_
    refine mJ_bipush (v := 50) dX8_anchorOf_68 rfl ?_
    refine mJ_ialdN dX8_anchorOf_70 rfl (j := 50) ⟨rfl, by decide, by decide⟩ ?_
    refine mJ_icmp_ge 115 dX8_anchorOf_71 rfl (fun c_71 => False.elim (by rw [hH] at c_71; exact nI_ge (show k < nH by omega) (by omega) c_71)) (fun c_71 => ?_)
    refine mJ_iload_n dX8_anchorOf_74 rfl ?_
    refine mJ_aload_n dX8_anchorOf_75 rfl ?_
    refine mJ_iload dX8_anchorOf_76 rfl ?_
    refine mJ_iconst (v := 0) dX8_anchorOf_78 rfl ?_
    refine mJ_cV2i dX8_anchorOf_79 e_X8_ofHint n_X8_52 ⟨Nat.le_of_ble_eq_true rfl, Nat.le_of_ble_eq_true rfl⟩ rfl rfl (Nat.le_of_ble_eq_true rfl) (C_X8_ofHint (w := 0) (show k < 12 by omega) (by decide)) ?_
    refine mJ_iload_n dX8_anchorOf_82 rfl ?_
    refine mJ_icmp_ne 106 dX8_anchorOf_83 rfl (fun c_83 => ?_) (fun c_83 => ?_)
    · refine mJ_iconst (v := 0) dX8_anchorOf_106 rfl ?_
      refine mJ_iadd dX8_anchorOf_107 ?_
      refine mJ_top (Int32.add_zero _) ?_
      refine mJ_istore_n dX8_anchorOf_108 (Nat.le_of_ble_eq_true rfl) (ls2 := [_, _, _, _, _]) rfl ?_
      refine mJ_iinc dX8_anchorOf_109 rfl (Nat.le_of_ble_eq_true rfl) (v := nI (k + 1)) (nI_1 k) (ls2 := [_, _, _, _, _]) rfl ?_
      refine mJ_goto 62 dX8_anchorOf_112 rfl ?_
      rw [show cP (fun k => dH d k 0 = nI a ∧ ¬ son k = -1) k = cP (fun k => dH d k 0 = nI a ∧ ¬ son k = -1) (k + 1) from (iif_f (fun z => c_83 z.1)).symm]
      exact ih (k + 1) (by omega)
    · refine mJ_iload_n dX8_anchorOf_86 rfl ?_
      refine mJ_iconst (v := 5) dX8_anchorOf_87 rfl ?_
      refine mJ_icmp_eq 102 dX8_anchorOf_88 rfl (fun c => absurd c (by decide)) (fun _ => ?_)
      refine mJ_aload_n dX8_anchorOf_91 rfl ?_
      refine mJ_get dX8_anchorOf_92 f_X8_26 rfl rfl ?_
      refine mJ_iload dX8_anchorOf_95 rfl ?_
      refine mJ_ialdN dX8_anchorOf_97 rfl (j := k) ⟨rfl, by omega, by omega⟩ ?_
      refine mJ_iconst (v := (-1)) dX8_anchorOf_98 rfl ?_
      refine mJ_icmp_eq 106 dX8_anchorOf_99 rfl (fun c_99 => ?_) (fun c_99 => ?_)
      · refine mJ_iconst (v := 0) dX8_anchorOf_106 rfl ?_
        refine mJ_iadd dX8_anchorOf_107 ?_
        refine mJ_top (Int32.add_zero _) ?_
        refine mJ_istore_n dX8_anchorOf_108 (Nat.le_of_ble_eq_true rfl) (ls2 := [_, _, _, _, _]) rfl ?_
        refine mJ_iinc dX8_anchorOf_109 rfl (Nat.le_of_ble_eq_true rfl) (v := nI (k + 1)) (nI_1 k) (ls2 := [_, _, _, _, _]) rfl ?_
        refine mJ_goto 62 dX8_anchorOf_112 rfl ?_
        rw [show cP (fun k => dH d k 0 = nI a ∧ ¬ son k = -1) k = cP (fun k => dH d k 0 = nI a ∧ ¬ son k = -1) (k + 1) from (iif_f (fun z => z.2 c_99)).symm]
        exact ih (k + 1) (by omega)
      · refine mJ_iconst (v := 1) dX8_anchorOf_102 rfl ?_
        refine mJ_goto 107 dX8_anchorOf_103 rfl ?_
        refine mJ_iadd dX8_anchorOf_107 ?_
        refine mJ_istore_n dX8_anchorOf_108 (Nat.le_of_ble_eq_true rfl) (ls2 := [_, _, _, _, _]) rfl ?_
        refine mJ_iinc dX8_anchorOf_109 rfl (Nat.le_of_ble_eq_true rfl) (v := nI (k + 1)) (nI_1 k) (ls2 := [_, _, _, _, _]) rfl ?_
        refine mJ_goto 62 dX8_anchorOf_112 rfl ?_
        rw [show cP (fun k => dH d k 0 = nI a ∧ ¬ son k = -1) k + 1 = cP (fun k => dH d k 0 = nI a ∧ ¬ son k = -1) (k + 1) from (iif_t ⟨c_83, c_99⟩).symm]
        exact ih (k + 1) (by omega)
set_option maxHeartbeats 4000000 in
set_option maxRecDepth 100000 in
theorem C_X8_anchorOf_6 {d was text ord why son tri : aF} {sta typ at_ sig fst snd rea lef top shf arr goo shn trs : Int32} {nA nH nO : Nat} (hw : wD d nA nH nO) (hi : wI d nO) {a : Nat} (h1 : q_rg (nI a) 0 (d 9 - 1)) : ∃ (lef' top' shf' arr' goo' : Int32) (ord' why' son' tri' : aF) (trs' : Int32), mCt k_X8_anchorOf [.ref 0, .int (nI a), .int 6] (mH d was sta text typ at_ sig fst snd rea lef top shf arr goo ord why son shn tri trs) (some (.int (cP (fun k => dH d k 0 = nI a ∧ ¬ (p_all d nA nH nO).2.1 k = -1) nH))) (mH (d) was sta text typ at_ sig fst snd rea (lef') (top') (shf') (arr') (goo') (ord') (why') (son') ((p_all (d) nA nH nO).2.2) (tri') (trs')) := by
  obtain ⟨l1, t1, s1, a1, o1, d1, y1, n1, r1, z1, e1, e2, e3, hj⟩ := C_X8_shows (d := d) (was := was) (sta := sta) (shn := shn) (text := text) (typ := typ) (at_ := at_) (sig := sig) (fst := fst) (snd := snd) (rea := rea) (lef := lef) (top := top) (shf := shf) (arr := arr) (goo := goo) (ord := ord) (why := why) (son := son) (tri := tri) (trs := trs) hw hi
  obtain ⟨w1, w2, w3, w4, w5, w6, w7, w8, w9, w10⟩ := id hw
  have hc := L_X8_anchorOf_6 (d := d) (was := was) (sta := sta) (text := text) (typ := typ) (at_ := at_) (sig := sig) (fst := fst) (snd := snd) (rea := rea) (lef := l1) (top := t1) (shf := s1) (arr := a1) (goo := o1) (ord := d1) (why := y1) (son := n1) (shn := (p_all d nA nH nO).2.2) (tri := r1) (trs := z1) w5 w2 (a := a) nH 0 (by omega)
  rw [show cP (fun k => dH d k 0 = nI a ∧ ¬ n1 k = -1) nH = cP (fun k => dH d k 0 = nI a ∧ ¬ (p_all d nA nH nO).2.1 k = -1) nH from cP_congr (fun j hj => by rw [e3 j (by omega)])] at hc
  refine ⟨l1, t1, s1, a1, o1, d1, y1, n1, r1, z1, ?_⟩
  refine mCt_intro (plainFor_of_name rfl) (Nat.le_of_ble_eq_true rfl) (m_all rfl) (ls := [_, _, _, _, _]) rfl ?_
  refine mJ_aload_n dX8_anchorOf_0 rfl ?_
  refine mJ_iload_n dX8_anchorOf_1 rfl ?_
  refine mJ_cV1i dX8_anchorOf_2 e_X8_isAnchor n_X8_125 ⟨Nat.le_of_ble_eq_true rfl, Nat.le_of_ble_eq_true rfl⟩ rfl rfl (Nat.le_of_ble_eq_true rfl) (C_X8_isAnchor) ?_
  refine mJ_top (b2i_t h1) ?_
  refine mJ_if_eq 18 dX8_anchorOf_5 rfl (fun c => absurd c (by decide)) (fun _ => ?_)
  refine mJ_iload_n dX8_anchorOf_8 rfl ?_
  refine mJ_iconst (v := 0) dX8_anchorOf_9 rfl ?_
  refine mJ_bipush (v := 6) dX8_anchorOf_10 rfl ?_
  refine mJ_cS3i dX8_anchorOf_12 e_X8_in n_X8_32 ⟨Nat.le_of_ble_eq_true rfl, Nat.le_of_ble_eq_true rfl⟩ (Nat.le_of_ble_eq_true rfl) (C_X8_in) ?_
  refine mJ_top (b2i_t ⟨by decide, by decide⟩) ?_
  refine mJ_if_ne 22 dX8_anchorOf_15 rfl (fun _ => ?_) (fun c => absurd c (by decide))
  refine mJ_iload_n dX8_anchorOf_22 rfl ?_
  refine mJ_iconst (v := 4) dX8_anchorOf_23 rfl ?_
  refine mJ_icmp_ge 34 dX8_anchorOf_24 rfl (fun _ => ?_) (fun c => absurd c (by decide))
  refine mJ_iload_n dX8_anchorOf_34 rfl ?_
  refine mJ_iconst (v := 4) dX8_anchorOf_35 rfl ?_
  refine mJ_icmp_ne 53 dX8_anchorOf_36 rfl (fun _ => ?_) (fun c => absurd c (by decide))
  refine mJ_aload_n dX8_anchorOf_53 rfl ?_
  refine mJ_cV0v dX8_anchorOf_54 e_X8_shows n_X8_112 ⟨Nat.le_of_ble_eq_true rfl, Nat.le_of_ble_eq_true rfl⟩ rfl rfl (Nat.le_of_ble_eq_true rfl) (hj) ?_
  refine mJ_iconst (v := 0) dX8_anchorOf_57 rfl ?_
  refine mJ_istore_n dX8_anchorOf_58 (Nat.le_of_ble_eq_true rfl) (ls2 := [_, _, _, _, _]) rfl ?_
  refine mJ_iconst (v := 0) dX8_anchorOf_59 rfl ?_
  refine mJ_istore dX8_anchorOf_60 (Nat.le_of_ble_eq_true rfl) (ls2 := [_, _, _, _, _]) rfl ?_
  exact hc
