/-! THE REFERENCE: questions -/
def iO (h : Nat) : List Nat → Nat → Int32
  | [], _ => -10004
  | x :: L, k => if x = h then nI k else iO h L (k + 1)
set_option maxHeartbeats 4000000 in
set_option maxRecDepth 100000 in
theorem L_X8_orderOf {d was text ord why son tri : aF} {sta typ at_ sig fst snd rea lef top shf arr goo shn trs : Int32} {nA nH nO : Nat} (hw : wD d nA nH nO) (hF : oF ord (ordL d nO)) {h : Nat} (hh : h < 12) : ∀ (m k : Nat), k + m = nO → mJ k_X8_orderOf 2 [.ref 0, .int (nI h), .int (nI k)] [] (mH d was sta text typ at_ sig fst snd rea lef top shf arr goo ord why son shn tri trs) (some (.int (iO h ((ordL d nO).drop k) k))) (mH d was sta text typ at_ sig fst snd rea lef top shf arr goo ord why son shn tri trs) := by
  have hO : d 147 = nI nO := hw.2.2.2.2.2.1
  have w3 : nO ≤ 12 := hw.2.2.1
  have w2 : nH ≤ 12 := hw.2.1
  have hlen := ordL_len d nO
  intro m
  induction m with
  | zero =>
    intro k hk
    have hd : (ordL d nO).drop k = [] := List.drop_eq_nil_of_le (by omega)
    refine mJ_iload_n dX8_orderOf_2 rfl ?_
    refine mJ_aload_n dX8_orderOf_3 rfl ?_
    refine mJ_get dX8_orderOf_4 f_X8_7 rfl rfl ?_
    refine mJ_sipush (v := 147) dX8_orderOf_7 rfl ?_
    refine mJ_ialdN dX8_orderOf_10 rfl (j := 147) ⟨rfl, by decide, by decide⟩ ?_
    refine mJ_icmp_ge 32 dX8_orderOf_11 rfl (fun c_11 => ?_) (fun c_11 => False.elim (by exact c_11 (by rw [hO, show k = nO by omega]; exact Int32.le_refl _)))
    refine mJ_sipush (v := (-10004)) dX8_orderOf_32 rfl ?_
    exact mJ_iret dX8_orderOf_35 rfl (by rw [hd]; rfl) (rfl)
  | succ m ih =>
    intro k hk
    obtain ⟨x, hx⟩ : ∃ x, (ordL d nO)[k]? = some x := ⟨_, List.getElem?_eq_getElem (by omega)⟩
    have hx12 : x < nH := ordL_mem hw (List.mem_of_getElem? hx)
    have ho : ord k = nI x := hF k x hx
    have hd : (ordL d nO).drop k = x :: (ordL d nO).drop (k + 1) := by
      rw [List.drop_eq_getElem_cons (by omega)]
      congr 1
      exact (List.getElem?_eq_some_iff.mp hx).2
    rw [hd]
    refine mJ_iload_n dX8_orderOf_2 rfl ?_
    refine mJ_aload_n dX8_orderOf_3 rfl ?_
    refine mJ_get dX8_orderOf_4 f_X8_7 rfl rfl ?_
    refine mJ_sipush (v := 147) dX8_orderOf_7 rfl ?_
    refine mJ_ialdN dX8_orderOf_10 rfl (j := 147) ⟨rfl, by decide, by decide⟩ ?_
    refine mJ_icmp_ge 32 dX8_orderOf_11 rfl (fun c_11 => False.elim (by rw [hO] at c_11; exact nI_ge (show k < nO by omega) (by omega) c_11)) (fun c_11 => ?_)
    refine mJ_aload_n dX8_orderOf_14 rfl ?_
    refine mJ_get dX8_orderOf_15 f_X8_20 rfl rfl ?_
    refine mJ_iload_n dX8_orderOf_18 rfl ?_
    refine mJ_ialdN dX8_orderOf_19 rfl (j := k) ⟨rfl, by omega, by omega⟩ ?_
    refine mJ_top ho ?_
    refine mJ_iload_n dX8_orderOf_20 rfl ?_
    refine mJ_icmp_ne 26 dX8_orderOf_21 rfl (fun c_21 => ?_) (fun c_21 => ?_)
    · refine mJ_iinc dX8_orderOf_26 rfl (Nat.le_of_ble_eq_true rfl) (v := nI (k + 1)) (nI_1 k) (ls2 := [_, _, _]) rfl ?_
      refine mJ_goto 2 dX8_orderOf_29 rfl ?_
      rw [show iO h (x :: (ordL d nO).drop (k + 1)) k = iO h ((ordL d nO).drop (k + 1)) (k + 1) from if_neg (fun e => c_21 (by rw [e]))]
      exact ih (k + 1) (by omega)
    · refine mJ_iload_n dX8_orderOf_24 rfl ?_
      exact mJ_iret dX8_orderOf_25 rfl (by rw [show iO h (x :: (ordL d nO).drop (k + 1)) k = nI k from if_pos ((nI_eq (by omega) (by omega)).mp c_21)]) (rfl)
set_option maxHeartbeats 4000000 in
set_option maxRecDepth 100000 in
theorem C_X8_orderOf {d was text ord why son tri : aF} {sta typ at_ sig fst snd rea lef top shf arr goo shn trs : Int32} {nA nH nO : Nat} (hw : wD d nA nH nO) (hF : oF ord (ordL d nO)) {h : Nat} (hh : h < 12) : mCt k_X8_orderOf [.ref 0, .int (nI h)] (mH d was sta text typ at_ sig fst snd rea lef top shf arr goo ord why son shn tri trs) (some (.int (iO h (ordL d nO) 0))) (mH d was sta text typ at_ sig fst snd rea lef top shf arr goo ord why son shn tri trs) := by
  refine mCt_intro (plainFor_of_name rfl) (Nat.le_of_ble_eq_true rfl) (m_all rfl) (ls := [_, _, _]) rfl ?_
  refine mJ_iconst (v := 0) dX8_orderOf_0 rfl ?_
  refine mJ_istore_n dX8_orderOf_1 (Nat.le_of_ble_eq_true rfl) (ls2 := [_, _, _]) rfl ?_
  exact L_X8_orderOf hw hF hh nO 0 (by omega)
set_option maxHeartbeats 4000000 in
set_option maxRecDepth 100000 in
theorem C_X8_hintOf_bad {d was text ord why son tri : aF} {sta typ at_ sig fst snd rea lef top shf arr goo shn trs : Int32} {h w : Int32} (hb : ¬ (q_rg h 0 (d 50 - 1) ∧ q_rg w 0 16)) : mCt k_X8_hintOf [.ref 0, .int h, .int w] (mH d was sta text typ at_ sig fst snd rea lef top shf arr goo ord why son shn tri trs) (some (.int (-10001))) (mH d was sta text typ at_ sig fst snd rea lef top shf arr goo ord why son shn tri trs) := by
  refine mCt_intro (plainFor_of_name rfl) (Nat.le_of_ble_eq_true rfl) (m_all rfl) (ls := [_, _, _]) rfl ?_
  refine mJ_aload_n dX8_hintOf_0 rfl ?_
  refine mJ_iload_n dX8_hintOf_1 rfl ?_
  refine mJ_cV1i dX8_hintOf_2 e_X8_isHint n_X8_138 ⟨Nat.le_of_ble_eq_true rfl, Nat.le_of_ble_eq_true rfl⟩ rfl rfl (Nat.le_of_ble_eq_true rfl) (C_X8_isHint) ?_
  refine mJ_b2i (fun b_2 => ?_) (fun b_2 => ?_)
  · refine mJ_if_eq 18 dX8_hintOf_5 rfl (fun c => absurd c (by decide)) (fun _ => ?_)
    refine mJ_iload_n dX8_hintOf_8 rfl ?_
    refine mJ_iconst (v := 0) dX8_hintOf_9 rfl ?_
    refine mJ_bipush (v := 16) dX8_hintOf_10 rfl ?_
    refine mJ_cS3i dX8_hintOf_12 e_X8_in n_X8_32 ⟨Nat.le_of_ble_eq_true rfl, Nat.le_of_ble_eq_true rfl⟩ (Nat.le_of_ble_eq_true rfl) (C_X8_in) ?_
    refine mJ_b2i (fun b_12 => ?_) (fun b_12 => ?_)
    · exact False.elim (by exact hb ⟨b_2, b_12⟩)
    · refine mJ_if_ne 22 dX8_hintOf_15 rfl (fun c => absurd c (by decide)) (fun _ => ?_)
      refine mJ_sipush (v := (-10001)) dX8_hintOf_18 rfl ?_
      exact mJ_iret dX8_hintOf_21 rfl (rfl) (rfl)
  · refine mJ_if_eq 18 dX8_hintOf_5 rfl (fun _ => ?_) (fun c => absurd c (by decide))
    refine mJ_sipush (v := (-10001)) dX8_hintOf_18 rfl ?_
    exact mJ_iret dX8_hintOf_21 rfl (rfl) (rfl)
set_option maxHeartbeats 4000000 in
set_option maxRecDepth 100000 in
theorem C_X8_hintOf_w {d was text ord why son tri : aF} {sta typ at_ sig fst snd rea lef top shf arr goo shn trs : Int32}  {h w : Nat} (hh : h < 12) (h1 : q_rg (nI h) 0 (d 50 - 1)) (hw8 : w < 8) : mCt k_X8_hintOf [.ref 0, .int (nI h), .int (nI w)] (mH d was sta text typ at_ sig fst snd rea lef top shf arr goo ord why son shn tri trs) (some (.int (dH d h w))) (mH (d) (was) (sta) text typ at_ sig fst snd rea lef top shf arr goo ord why son shn tri trs) := by
  refine mCt_intro (plainFor_of_name rfl) (Nat.le_of_ble_eq_true rfl) (m_all rfl) (ls := [_, _, _]) rfl ?_
  refine mJ_aload_n dX8_hintOf_0 rfl ?_
  refine mJ_iload_n dX8_hintOf_1 rfl ?_
  refine mJ_cV1i dX8_hintOf_2 e_X8_isHint n_X8_138 ⟨Nat.le_of_ble_eq_true rfl, Nat.le_of_ble_eq_true rfl⟩ rfl rfl (Nat.le_of_ble_eq_true rfl) (C_X8_isHint) ?_
  refine mJ_top (b2i_t h1) ?_
  refine mJ_if_eq 18 dX8_hintOf_5 rfl (fun c => absurd c (by decide)) (fun _ => ?_)
  refine mJ_iload_n dX8_hintOf_8 rfl ?_
  refine mJ_iconst (v := 0) dX8_hintOf_9 rfl ?_
  refine mJ_bipush (v := 16) dX8_hintOf_10 rfl ?_
  refine mJ_cS3i dX8_hintOf_12 e_X8_in n_X8_32 ⟨Nat.le_of_ble_eq_true rfl, Nat.le_of_ble_eq_true rfl⟩ (Nat.le_of_ble_eq_true rfl) (C_X8_in) ?_
  refine mJ_top (b2i_t ⟨nI_pos (by omega), nI_nlt (a := 16) (b := w) (by omega) (by omega)⟩) ?_
  refine mJ_if_ne 22 dX8_hintOf_15 rfl (fun _ => ?_) (fun c => absurd c (by decide))
  refine mJ_iload_n dX8_hintOf_22 rfl ?_
  refine mJ_bipush (v := 8) dX8_hintOf_23 rfl ?_
  refine mJ_icmp_ge 35 dX8_hintOf_25 rfl (fun c_25 => False.elim (by exact nI_ge (b := 8) hw8 (by omega) c_25)) (fun c_25 => ?_)
  refine mJ_aload_n dX8_hintOf_28 rfl ?_
  refine mJ_iload_n dX8_hintOf_29 rfl ?_
  refine mJ_iload_n dX8_hintOf_30 rfl ?_
  refine mJ_cV2i dX8_hintOf_31 e_X8_ofHint n_X8_52 ⟨Nat.le_of_ble_eq_true rfl, Nat.le_of_ble_eq_true rfl⟩ rfl rfl (Nat.le_of_ble_eq_true rfl) (C_X8_ofHint hh hw8) ?_
  exact mJ_iret dX8_hintOf_34 rfl (rfl) (rfl)
set_option maxHeartbeats 4000000 in
set_option maxRecDepth 100000 in
theorem C_X8_hintOf_8 {d was text ord why son tri : aF} {sta typ at_ sig fst snd rea lef top shf arr goo shn trs : Int32} {nA nH nO : Nat} {h : Nat} (hh : h < 12) (h1 : q_rg (nI h) 0 (d 50 - 1)) (hw : wD d nA nH nO) (hi : wI d nO) : ∃ (lef' top' shf' arr' goo' : Int32) (ord' why' son' tri' : aF) (trs' : Int32), mCt k_X8_hintOf [.ref 0, .int (nI h), .int 8] (mH d was sta text typ at_ sig fst snd rea lef top shf arr goo ord why son shn tri trs) (some (.int ((p_all d nA nH nO).1 h))) (mH (d) (was) (sta) text typ at_ sig fst snd rea (lef') (top') (shf') (arr') (goo') (ord') (why') (son') ((p_all (d) nA nH nO).2.2) (tri') (trs')) := by
  obtain ⟨l1, t1, s1, a1, o1, d1, y1, n1, r1, z1, e1, e2, e3, hj⟩ := C_X8_shows (d := d) (was := was) (sta := sta) (shn := shn) (text := text) (typ := typ) (at_ := at_) (sig := sig) (fst := fst) (snd := snd) (rea := rea) (lef := lef) (top := top) (shf := shf) (arr := arr) (goo := goo) (ord := ord) (why := why) (son := son) (tri := tri) (trs := trs) hw hi
  refine ⟨l1, t1, s1, a1, o1, d1, y1, n1, r1, z1, ?_⟩
  refine mCt_intro (plainFor_of_name rfl) (Nat.le_of_ble_eq_true rfl) (m_all rfl) (ls := [_, _, _]) rfl ?_
  refine mJ_aload_n dX8_hintOf_0 rfl ?_
  refine mJ_iload_n dX8_hintOf_1 rfl ?_
  refine mJ_cV1i dX8_hintOf_2 e_X8_isHint n_X8_138 ⟨Nat.le_of_ble_eq_true rfl, Nat.le_of_ble_eq_true rfl⟩ rfl rfl (Nat.le_of_ble_eq_true rfl) (C_X8_isHint) ?_
  refine mJ_top (b2i_t h1) ?_
  refine mJ_if_eq 18 dX8_hintOf_5 rfl (fun c => absurd c (by decide)) (fun _ => ?_)
  refine mJ_iload_n dX8_hintOf_8 rfl ?_
  refine mJ_iconst (v := 0) dX8_hintOf_9 rfl ?_
  refine mJ_bipush (v := 16) dX8_hintOf_10 rfl ?_
  refine mJ_cS3i dX8_hintOf_12 e_X8_in n_X8_32 ⟨Nat.le_of_ble_eq_true rfl, Nat.le_of_ble_eq_true rfl⟩ (Nat.le_of_ble_eq_true rfl) (C_X8_in) ?_
  refine mJ_top (b2i_t ⟨by decide, by decide⟩) ?_
  refine mJ_if_ne 22 dX8_hintOf_15 rfl (fun _ => ?_) (fun c => absurd c (by decide))
  refine mJ_iload_n dX8_hintOf_22 rfl ?_
  refine mJ_bipush (v := 8) dX8_hintOf_23 rfl ?_
  refine mJ_icmp_ge 35 dX8_hintOf_25 rfl (fun _ => ?_) (fun c => absurd c (by decide))
  refine mJ_aload_n dX8_hintOf_35 rfl ?_
  refine mJ_cV0v dX8_hintOf_36 e_X8_shows n_X8_112 ⟨Nat.le_of_ble_eq_true rfl, Nat.le_of_ble_eq_true rfl⟩ rfl rfl (Nat.le_of_ble_eq_true rfl) (hj) ?_
  refine mJ_iload_n dX8_hintOf_39 rfl ?_
  refine mJ_bipush (v := 8) dX8_hintOf_40 rfl ?_
  refine mJ_icmp_ne 52 dX8_hintOf_42 rfl (fun c => absurd c (by decide)) (fun _ => ?_)
  refine mJ_aload_n dX8_hintOf_45 rfl ?_
  refine mJ_get dX8_hintOf_46 f_X8_23 rfl rfl ?_
  refine mJ_iload_n dX8_hintOf_49 rfl ?_
  refine mJ_ialdN dX8_hintOf_50 rfl (j := h) ⟨rfl, by omega, by omega⟩ ?_
  exact mJ_iret dX8_hintOf_51 rfl (by rw [e2 h hh]) (rfl)
set_option maxHeartbeats 4000000 in
set_option maxRecDepth 100000 in
theorem C_X8_hintOf_15n {d was text ord why son tri : aF} {sta typ at_ sig fst snd rea lef top shf arr goo shn trs : Int32} {nA nH nO : Nat} {h : Nat} (hh : h < 12) (h1 : q_rg (nI h) 0 (d 50 - 1)) (hw : wD d nA nH nO) (hi : wI d nO) (h2 : d (160 + h) = -1) : ∃ (lef' top' shf' arr' goo' : Int32) (ord' why' son' tri' : aF) (trs' : Int32), mCt k_X8_hintOf [.ref 0, .int (nI h), .int 15] (mH d was sta text typ at_ sig fst snd rea lef top shf arr goo ord why son shn tri trs) (some (.int (-10004))) (mH (d) (was) (sta) text typ at_ sig fst snd rea (lef') (top') (shf') (arr') (goo') (ord') (why') (son') ((p_all (d) nA nH nO).2.2) (tri') (trs')) := by
  obtain ⟨l1, t1, s1, a1, o1, d1, y1, n1, r1, z1, e1, e2, e3, hj⟩ := C_X8_shows (d := d) (was := was) (sta := sta) (shn := shn) (text := text) (typ := typ) (at_ := at_) (sig := sig) (fst := fst) (snd := snd) (rea := rea) (lef := lef) (top := top) (shf := shf) (arr := arr) (goo := goo) (ord := ord) (why := why) (son := son) (tri := tri) (trs := trs) hw hi
  refine ⟨l1, t1, s1, a1, o1, d1, y1, n1, r1, z1, ?_⟩
  refine mCt_intro (plainFor_of_name rfl) (Nat.le_of_ble_eq_true rfl) (m_all rfl) (ls := [_, _, _]) rfl ?_
  refine mJ_aload_n dX8_hintOf_0 rfl ?_
  refine mJ_iload_n dX8_hintOf_1 rfl ?_
  refine mJ_cV1i dX8_hintOf_2 e_X8_isHint n_X8_138 ⟨Nat.le_of_ble_eq_true rfl, Nat.le_of_ble_eq_true rfl⟩ rfl rfl (Nat.le_of_ble_eq_true rfl) (C_X8_isHint) ?_
  refine mJ_top (b2i_t h1) ?_
  refine mJ_if_eq 18 dX8_hintOf_5 rfl (fun c => absurd c (by decide)) (fun _ => ?_)
  refine mJ_iload_n dX8_hintOf_8 rfl ?_
  refine mJ_iconst (v := 0) dX8_hintOf_9 rfl ?_
  refine mJ_bipush (v := 16) dX8_hintOf_10 rfl ?_
  refine mJ_cS3i dX8_hintOf_12 e_X8_in n_X8_32 ⟨Nat.le_of_ble_eq_true rfl, Nat.le_of_ble_eq_true rfl⟩ (Nat.le_of_ble_eq_true rfl) (C_X8_in) ?_
  refine mJ_top (b2i_t ⟨by decide, by decide⟩) ?_
  refine mJ_if_ne 22 dX8_hintOf_15 rfl (fun _ => ?_) (fun c => absurd c (by decide))
  refine mJ_iload_n dX8_hintOf_22 rfl ?_
  refine mJ_bipush (v := 8) dX8_hintOf_23 rfl ?_
  refine mJ_icmp_ge 35 dX8_hintOf_25 rfl (fun _ => ?_) (fun c => absurd c (by decide))
  refine mJ_aload_n dX8_hintOf_35 rfl ?_
  refine mJ_cV0v dX8_hintOf_36 e_X8_shows n_X8_112 ⟨Nat.le_of_ble_eq_true rfl, Nat.le_of_ble_eq_true rfl⟩ rfl rfl (Nat.le_of_ble_eq_true rfl) (hj) ?_
  refine mJ_iload_n dX8_hintOf_39 rfl ?_
  refine mJ_bipush (v := 8) dX8_hintOf_40 rfl ?_
  refine mJ_icmp_ne 52 dX8_hintOf_42 rfl (fun _ => ?_) (fun c => absurd c (by decide))
  refine mJ_iload_n dX8_hintOf_52 rfl ?_
  refine mJ_bipush (v := 15) dX8_hintOf_53 rfl ?_
  refine mJ_icmp_ne 89 dX8_hintOf_55 rfl (fun c => absurd c (by decide)) (fun _ => ?_)
  refine mJ_aload_n dX8_hintOf_58 rfl ?_
  refine mJ_get dX8_hintOf_59 f_X8_7 rfl rfl ?_
  refine mJ_sipush (v := 160) dX8_hintOf_62 rfl ?_
  refine mJ_iload_n dX8_hintOf_65 rfl ?_
  refine mJ_iadd dX8_hintOf_66 ?_
  refine mJ_ialdN dX8_hintOf_67 rfl (j := 160 + h) ⟨by simp only [← nI_add]; rfl, by omega, by decide⟩ ?_
  refine mJ_iconst (v := (-1)) dX8_hintOf_68 rfl ?_
  refine mJ_icmp_ne 78 dX8_hintOf_69 rfl (fun c_69 => False.elim (by exact c_69 h2)) (fun c_69 => ?_)
  refine mJ_sipush (v := (-10004)) dX8_hintOf_72 rfl ?_
  refine mJ_goto 88 dX8_hintOf_75 rfl ?_
  exact mJ_iret dX8_hintOf_88 rfl (rfl) (rfl)
set_option maxHeartbeats 4000000 in
set_option maxRecDepth 100000 in
theorem C_X8_hintOf_15 {d was text ord why son tri : aF} {sta typ at_ sig fst snd rea lef top shf arr goo shn trs : Int32} {nA nH nO : Nat} {h : Nat} (hh : h < 12) (h1 : q_rg (nI h) 0 (d 50 - 1)) (hw : wD d nA nH nO) (hi : wI d nO) (h2 : ¬ d (160 + h) = -1) : ∃ (lef' top' shf' arr' goo' : Int32) (ord' why' son' tri' : aF) (trs' : Int32), mCt k_X8_hintOf [.ref 0, .int (nI h), .int 15] (mH d was sta text typ at_ sig fst snd rea lef top shf arr goo ord why son shn tri trs) (some (.int (d (160 + h)))) (mH (d) (was) (sta) text typ at_ sig fst snd rea (lef') (top') (shf') (arr') (goo') (ord') (why') (son') ((p_all (d) nA nH nO).2.2) (tri') (trs')) := by
  obtain ⟨l1, t1, s1, a1, o1, d1, y1, n1, r1, z1, e1, e2, e3, hj⟩ := C_X8_shows (d := d) (was := was) (sta := sta) (shn := shn) (text := text) (typ := typ) (at_ := at_) (sig := sig) (fst := fst) (snd := snd) (rea := rea) (lef := lef) (top := top) (shf := shf) (arr := arr) (goo := goo) (ord := ord) (why := why) (son := son) (tri := tri) (trs := trs) hw hi
  refine ⟨l1, t1, s1, a1, o1, d1, y1, n1, r1, z1, ?_⟩
  refine mCt_intro (plainFor_of_name rfl) (Nat.le_of_ble_eq_true rfl) (m_all rfl) (ls := [_, _, _]) rfl ?_
  refine mJ_aload_n dX8_hintOf_0 rfl ?_
  refine mJ_iload_n dX8_hintOf_1 rfl ?_
  refine mJ_cV1i dX8_hintOf_2 e_X8_isHint n_X8_138 ⟨Nat.le_of_ble_eq_true rfl, Nat.le_of_ble_eq_true rfl⟩ rfl rfl (Nat.le_of_ble_eq_true rfl) (C_X8_isHint) ?_
  refine mJ_top (b2i_t h1) ?_
  refine mJ_if_eq 18 dX8_hintOf_5 rfl (fun c => absurd c (by decide)) (fun _ => ?_)
  refine mJ_iload_n dX8_hintOf_8 rfl ?_
  refine mJ_iconst (v := 0) dX8_hintOf_9 rfl ?_
  refine mJ_bipush (v := 16) dX8_hintOf_10 rfl ?_
  refine mJ_cS3i dX8_hintOf_12 e_X8_in n_X8_32 ⟨Nat.le_of_ble_eq_true rfl, Nat.le_of_ble_eq_true rfl⟩ (Nat.le_of_ble_eq_true rfl) (C_X8_in) ?_
  refine mJ_top (b2i_t ⟨by decide, by decide⟩) ?_
  refine mJ_if_ne 22 dX8_hintOf_15 rfl (fun _ => ?_) (fun c => absurd c (by decide))
  refine mJ_iload_n dX8_hintOf_22 rfl ?_
  refine mJ_bipush (v := 8) dX8_hintOf_23 rfl ?_
  refine mJ_icmp_ge 35 dX8_hintOf_25 rfl (fun _ => ?_) (fun c => absurd c (by decide))
  refine mJ_aload_n dX8_hintOf_35 rfl ?_
  refine mJ_cV0v dX8_hintOf_36 e_X8_shows n_X8_112 ⟨Nat.le_of_ble_eq_true rfl, Nat.le_of_ble_eq_true rfl⟩ rfl rfl (Nat.le_of_ble_eq_true rfl) (hj) ?_
  refine mJ_iload_n dX8_hintOf_39 rfl ?_
  refine mJ_bipush (v := 8) dX8_hintOf_40 rfl ?_
  refine mJ_icmp_ne 52 dX8_hintOf_42 rfl (fun _ => ?_) (fun c => absurd c (by decide))
  refine mJ_iload_n dX8_hintOf_52 rfl ?_
  refine mJ_bipush (v := 15) dX8_hintOf_53 rfl ?_
  refine mJ_icmp_ne 89 dX8_hintOf_55 rfl (fun c => absurd c (by decide)) (fun _ => ?_)
  refine mJ_aload_n dX8_hintOf_58 rfl ?_
  refine mJ_get dX8_hintOf_59 f_X8_7 rfl rfl ?_
  refine mJ_sipush (v := 160) dX8_hintOf_62 rfl ?_
  refine mJ_iload_n dX8_hintOf_65 rfl ?_
  refine mJ_iadd dX8_hintOf_66 ?_
  refine mJ_ialdN dX8_hintOf_67 rfl (j := 160 + h) ⟨by simp only [← nI_add]; rfl, by omega, by decide⟩ ?_
  refine mJ_iconst (v := (-1)) dX8_hintOf_68 rfl ?_
  refine mJ_icmp_ne 78 dX8_hintOf_69 rfl (fun c_69 => ?_) (fun c_69 => False.elim (by exact h2 c_69))
  refine mJ_aload_n dX8_hintOf_78 rfl ?_
  refine mJ_get dX8_hintOf_79 f_X8_7 rfl rfl ?_
  refine mJ_sipush (v := 160) dX8_hintOf_82 rfl ?_
  refine mJ_iload_n dX8_hintOf_85 rfl ?_
  refine mJ_iadd dX8_hintOf_86 ?_
  refine mJ_ialdN dX8_hintOf_87 rfl (j := 160 + h) ⟨by simp only [← nI_add]; rfl, by omega, by decide⟩ ?_
  exact mJ_iret dX8_hintOf_88 rfl (rfl) (rfl)
set_option maxHeartbeats 4000000 in
set_option maxRecDepth 100000 in
theorem C_X8_hintOf_16 {d was text ord why son tri : aF} {sta typ at_ sig fst snd rea lef top shf arr goo shn trs : Int32} {nA nH nO : Nat} {h : Nat} (hh : h < 12) (h1 : q_rg (nI h) 0 (d 50 - 1)) (hw : wD d nA nH nO) (hi : wI d nO) : ∃ (lef' top' shf' arr' goo' : Int32) (ord' why' son' tri' : aF) (trs' : Int32), mCt k_X8_hintOf [.ref 0, .int (nI h), .int 16] (mH d was sta text typ at_ sig fst snd rea lef top shf arr goo ord why son shn tri trs) (some (.int (iO h (ordL d nO) 0))) (mH (d) (was) (sta) text typ at_ sig fst snd rea (lef') (top') (shf') (arr') (goo') (ord') (why') (son') ((p_all (d) nA nH nO).2.2) (tri') (trs')) := by
  obtain ⟨l1, t1, s1, a1, o1, d1, y1, n1, r1, z1, e1, e2, e3, hj⟩ := C_X8_shows (d := d) (was := was) (sta := sta) (shn := shn) (text := text) (typ := typ) (at_ := at_) (sig := sig) (fst := fst) (snd := snd) (rea := rea) (lef := lef) (top := top) (shf := shf) (arr := arr) (goo := goo) (ord := ord) (why := why) (son := son) (tri := tri) (trs := trs) hw hi
  refine ⟨l1, t1, s1, a1, o1, d1, y1, n1, r1, z1, ?_⟩
  refine mCt_intro (plainFor_of_name rfl) (Nat.le_of_ble_eq_true rfl) (m_all rfl) (ls := [_, _, _]) rfl ?_
  refine mJ_aload_n dX8_hintOf_0 rfl ?_
  refine mJ_iload_n dX8_hintOf_1 rfl ?_
  refine mJ_cV1i dX8_hintOf_2 e_X8_isHint n_X8_138 ⟨Nat.le_of_ble_eq_true rfl, Nat.le_of_ble_eq_true rfl⟩ rfl rfl (Nat.le_of_ble_eq_true rfl) (C_X8_isHint) ?_
  refine mJ_top (b2i_t h1) ?_
  refine mJ_if_eq 18 dX8_hintOf_5 rfl (fun c => absurd c (by decide)) (fun _ => ?_)
  refine mJ_iload_n dX8_hintOf_8 rfl ?_
  refine mJ_iconst (v := 0) dX8_hintOf_9 rfl ?_
  refine mJ_bipush (v := 16) dX8_hintOf_10 rfl ?_
  refine mJ_cS3i dX8_hintOf_12 e_X8_in n_X8_32 ⟨Nat.le_of_ble_eq_true rfl, Nat.le_of_ble_eq_true rfl⟩ (Nat.le_of_ble_eq_true rfl) (C_X8_in) ?_
  refine mJ_top (b2i_t ⟨by decide, by decide⟩) ?_
  refine mJ_if_ne 22 dX8_hintOf_15 rfl (fun _ => ?_) (fun c => absurd c (by decide))
  refine mJ_iload_n dX8_hintOf_22 rfl ?_
  refine mJ_bipush (v := 8) dX8_hintOf_23 rfl ?_
  refine mJ_icmp_ge 35 dX8_hintOf_25 rfl (fun _ => ?_) (fun c => absurd c (by decide))
  refine mJ_aload_n dX8_hintOf_35 rfl ?_
  refine mJ_cV0v dX8_hintOf_36 e_X8_shows n_X8_112 ⟨Nat.le_of_ble_eq_true rfl, Nat.le_of_ble_eq_true rfl⟩ rfl rfl (Nat.le_of_ble_eq_true rfl) (hj) ?_
  refine mJ_iload_n dX8_hintOf_39 rfl ?_
  refine mJ_bipush (v := 8) dX8_hintOf_40 rfl ?_
  refine mJ_icmp_ne 52 dX8_hintOf_42 rfl (fun _ => ?_) (fun c => absurd c (by decide))
  refine mJ_iload_n dX8_hintOf_52 rfl ?_
  refine mJ_bipush (v := 15) dX8_hintOf_53 rfl ?_
  refine mJ_icmp_ne 89 dX8_hintOf_55 rfl (fun _ => ?_) (fun c => absurd c (by decide))
  refine mJ_iload_n dX8_hintOf_89 rfl ?_
  refine mJ_bipush (v := 16) dX8_hintOf_90 rfl ?_
  refine mJ_icmp_ne 101 dX8_hintOf_92 rfl (fun c => absurd c (by decide)) (fun _ => ?_)
  refine mJ_aload_n dX8_hintOf_95 rfl ?_
  refine mJ_iload_n dX8_hintOf_96 rfl ?_
  refine mJ_cV1i dX8_hintOf_97 e_X8_orderOf n_X8_156 ⟨Nat.le_of_ble_eq_true rfl, Nat.le_of_ble_eq_true rfl⟩ rfl rfl (Nat.le_of_ble_eq_true rfl) (C_X8_orderOf hw e1 hh) ?_
  exact mJ_iret dX8_hintOf_100 rfl (rfl) (rfl)
set_option maxHeartbeats 4000000 in
set_option maxRecDepth 100000 in
theorem C_X8_hintOf_9n {d was text ord why son tri : aF} {sta typ at_ sig fst snd rea lef top shf arr goo shn trs : Int32} {nA nH nO : Nat} {h : Nat} (hh : h < 12) (h1 : q_rg (nI h) 0 (d 50 - 1)) (hw : wD d nA nH nO) (hi : wI d nO) (h2 : ((p_all d nA nH nO).2.1 h) = -1) : ∃ (lef' top' shf' arr' goo' : Int32) (ord' why' son' tri' : aF) (trs' : Int32), mCt k_X8_hintOf [.ref 0, .int (nI h), .int 9] (mH d was sta text typ at_ sig fst snd rea lef top shf arr goo ord why son shn tri trs) (some (.int (-10004))) (mH (d) (was) (sta) text typ at_ sig fst snd rea (lef') (top') (shf') (arr') (goo') (ord') (why') (son') ((p_all (d) nA nH nO).2.2) (tri') (trs')) := by
  obtain ⟨l1, t1, s1, a1, o1, d1, y1, n1, r1, z1, e1, e2, e3, hj⟩ := C_X8_shows (d := d) (was := was) (sta := sta) (shn := shn) (text := text) (typ := typ) (at_ := at_) (sig := sig) (fst := fst) (snd := snd) (rea := rea) (lef := lef) (top := top) (shf := shf) (arr := arr) (goo := goo) (ord := ord) (why := why) (son := son) (tri := tri) (trs := trs) hw hi
  refine ⟨l1, t1, s1, a1, o1, d1, y1, n1, r1, z1, ?_⟩
  refine mCt_intro (plainFor_of_name rfl) (Nat.le_of_ble_eq_true rfl) (m_all rfl) (ls := [_, _, _]) rfl ?_
  refine mJ_aload_n dX8_hintOf_0 rfl ?_
  refine mJ_iload_n dX8_hintOf_1 rfl ?_
  refine mJ_cV1i dX8_hintOf_2 e_X8_isHint n_X8_138 ⟨Nat.le_of_ble_eq_true rfl, Nat.le_of_ble_eq_true rfl⟩ rfl rfl (Nat.le_of_ble_eq_true rfl) (C_X8_isHint) ?_
  refine mJ_top (b2i_t h1) ?_
  refine mJ_if_eq 18 dX8_hintOf_5 rfl (fun c => absurd c (by decide)) (fun _ => ?_)
  refine mJ_iload_n dX8_hintOf_8 rfl ?_
  refine mJ_iconst (v := 0) dX8_hintOf_9 rfl ?_
  refine mJ_bipush (v := 16) dX8_hintOf_10 rfl ?_
  refine mJ_cS3i dX8_hintOf_12 e_X8_in n_X8_32 ⟨Nat.le_of_ble_eq_true rfl, Nat.le_of_ble_eq_true rfl⟩ (Nat.le_of_ble_eq_true rfl) (C_X8_in) ?_
  refine mJ_top (b2i_t ⟨by decide, by decide⟩) ?_
  refine mJ_if_ne 22 dX8_hintOf_15 rfl (fun _ => ?_) (fun c => absurd c (by decide))
  refine mJ_iload_n dX8_hintOf_22 rfl ?_
  refine mJ_bipush (v := 8) dX8_hintOf_23 rfl ?_
  refine mJ_icmp_ge 35 dX8_hintOf_25 rfl (fun _ => ?_) (fun c => absurd c (by decide))
  refine mJ_aload_n dX8_hintOf_35 rfl ?_
  refine mJ_cV0v dX8_hintOf_36 e_X8_shows n_X8_112 ⟨Nat.le_of_ble_eq_true rfl, Nat.le_of_ble_eq_true rfl⟩ rfl rfl (Nat.le_of_ble_eq_true rfl) (hj) ?_
  refine mJ_iload_n dX8_hintOf_39 rfl ?_
  refine mJ_bipush (v := 8) dX8_hintOf_40 rfl ?_
  refine mJ_icmp_ne 52 dX8_hintOf_42 rfl (fun _ => ?_) (fun c => absurd c (by decide))
  refine mJ_iload_n dX8_hintOf_52 rfl ?_
  refine mJ_bipush (v := 15) dX8_hintOf_53 rfl ?_
  refine mJ_icmp_ne 89 dX8_hintOf_55 rfl (fun _ => ?_) (fun c => absurd c (by decide))
  refine mJ_iload_n dX8_hintOf_89 rfl ?_
  refine mJ_bipush (v := 16) dX8_hintOf_90 rfl ?_
  refine mJ_icmp_ne 101 dX8_hintOf_92 rfl (fun _ => ?_) (fun c => absurd c (by decide))
  refine mJ_aload_n dX8_hintOf_101 rfl ?_
  refine mJ_get dX8_hintOf_102 f_X8_26 rfl rfl ?_
  refine mJ_iload_n dX8_hintOf_105 rfl ?_
  refine mJ_ialdN dX8_hintOf_106 rfl (j := h) ⟨rfl, by omega, by omega⟩ ?_
  refine mJ_top (e3 h hh) ?_
  refine mJ_iconst (v := (-1)) dX8_hintOf_107 rfl ?_
  refine mJ_icmp_ne 115 dX8_hintOf_108 rfl (fun c_108 => False.elim (by exact c_108 h2)) (fun c_108 => ?_)
  refine mJ_sipush (v := (-10004)) dX8_hintOf_111 rfl ?_
  exact mJ_iret dX8_hintOf_114 rfl (rfl) (rfl)
set_option maxHeartbeats 4000000 in
set_option maxRecDepth 100000 in
theorem C_X8_hintOf_9 {d was text ord why son tri : aF} {sta typ at_ sig fst snd rea lef top shf arr goo shn trs : Int32} {nA nH nO : Nat} {h a : Nat} (hh : h < 12) (h1 : q_rg (nI h) 0 (d 50 - 1)) (hw : wD d nA nH nO) (hi : wI d nO) (h2 : ¬ ((p_all d nA nH nO).2.1 h) = -1) (h3 : sd ((p_all d nA nH nO).2.1 h)) (ha0 : dH d h 0 = nI a) (ha : a < 10) : ∃ (lef' top' shf' arr' goo' : Int32) (ord' why' son' tri' : aF) (trs' : Int32), mCt k_X8_hintOf [.ref 0, .int (nI h), .int 9] (mH d was sta text typ at_ sig fst snd rea lef top shf arr goo ord why son shn tri trs) (some (.int ((p_all d nA nH nO).2.1 h))) (mH (d) (was) (sta) text typ at_ sig fst snd rea (lef') (top') (shf') (arr') (goo') (ord') (why') (son') ((p_all (d) nA nH nO).2.2) (tri') (trs')) := by
  obtain ⟨l1, t1, s1, a1, o1, d1, y1, n1, r1, z1, e1, e2, e3, hj⟩ := C_X8_shows (d := d) (was := was) (sta := sta) (shn := shn) (text := text) (typ := typ) (at_ := at_) (sig := sig) (fst := fst) (snd := snd) (rea := rea) (lef := lef) (top := top) (shf := shf) (arr := arr) (goo := goo) (ord := ord) (why := why) (son := son) (tri := tri) (trs := trs) hw hi
  refine ⟨p_x d h ((p_all d nA nH nO).2.1 h), p_y d h ((p_all d nA nH nO).2.1 h), p_sh d h ((p_all d nA nH nO).2.1 h), p_ar d h ((p_all d nA nH nO).2.1 h), b2i (p_gd d h ((p_all d nA nH nO).2.1 h)), d1, y1, n1, r1, z1, ?_⟩
  refine mCt_intro (plainFor_of_name rfl) (Nat.le_of_ble_eq_true rfl) (m_all rfl) (ls := [_, _, _]) rfl ?_
  refine mJ_aload_n dX8_hintOf_0 rfl ?_
  refine mJ_iload_n dX8_hintOf_1 rfl ?_
  refine mJ_cV1i dX8_hintOf_2 e_X8_isHint n_X8_138 ⟨Nat.le_of_ble_eq_true rfl, Nat.le_of_ble_eq_true rfl⟩ rfl rfl (Nat.le_of_ble_eq_true rfl) (C_X8_isHint) ?_
  refine mJ_top (b2i_t h1) ?_
  refine mJ_if_eq 18 dX8_hintOf_5 rfl (fun c => absurd c (by decide)) (fun _ => ?_)
  refine mJ_iload_n dX8_hintOf_8 rfl ?_
  refine mJ_iconst (v := 0) dX8_hintOf_9 rfl ?_
  refine mJ_bipush (v := 16) dX8_hintOf_10 rfl ?_
  refine mJ_cS3i dX8_hintOf_12 e_X8_in n_X8_32 ⟨Nat.le_of_ble_eq_true rfl, Nat.le_of_ble_eq_true rfl⟩ (Nat.le_of_ble_eq_true rfl) (C_X8_in) ?_
  refine mJ_top (b2i_t ⟨by decide, by decide⟩) ?_
  refine mJ_if_ne 22 dX8_hintOf_15 rfl (fun _ => ?_) (fun c => absurd c (by decide))
  refine mJ_iload_n dX8_hintOf_22 rfl ?_
  refine mJ_bipush (v := 8) dX8_hintOf_23 rfl ?_
  refine mJ_icmp_ge 35 dX8_hintOf_25 rfl (fun _ => ?_) (fun c => absurd c (by decide))
  refine mJ_aload_n dX8_hintOf_35 rfl ?_
  refine mJ_cV0v dX8_hintOf_36 e_X8_shows n_X8_112 ⟨Nat.le_of_ble_eq_true rfl, Nat.le_of_ble_eq_true rfl⟩ rfl rfl (Nat.le_of_ble_eq_true rfl) (hj) ?_
  refine mJ_iload_n dX8_hintOf_39 rfl ?_
  refine mJ_bipush (v := 8) dX8_hintOf_40 rfl ?_
  refine mJ_icmp_ne 52 dX8_hintOf_42 rfl (fun _ => ?_) (fun c => absurd c (by decide))
  refine mJ_iload_n dX8_hintOf_52 rfl ?_
  refine mJ_bipush (v := 15) dX8_hintOf_53 rfl ?_
  refine mJ_icmp_ne 89 dX8_hintOf_55 rfl (fun _ => ?_) (fun c => absurd c (by decide))
  refine mJ_iload_n dX8_hintOf_89 rfl ?_
  refine mJ_bipush (v := 16) dX8_hintOf_90 rfl ?_
  refine mJ_icmp_ne 101 dX8_hintOf_92 rfl (fun _ => ?_) (fun c => absurd c (by decide))
  refine mJ_aload_n dX8_hintOf_101 rfl ?_
  refine mJ_get dX8_hintOf_102 f_X8_26 rfl rfl ?_
  refine mJ_iload_n dX8_hintOf_105 rfl ?_
  refine mJ_ialdN dX8_hintOf_106 rfl (j := h) ⟨rfl, by omega, by omega⟩ ?_
  refine mJ_top (e3 h hh) ?_
  refine mJ_iconst (v := (-1)) dX8_hintOf_107 rfl ?_
  refine mJ_icmp_ne 115 dX8_hintOf_108 rfl (fun c_108 => ?_) (fun c_108 => False.elim (by exact h2 c_108))
  refine mJ_aload_n dX8_hintOf_115 rfl ?_
  refine mJ_iload_n dX8_hintOf_116 rfl ?_
  refine mJ_aload_n dX8_hintOf_117 rfl ?_
  refine mJ_get dX8_hintOf_118 f_X8_26 rfl rfl ?_
  refine mJ_iload_n dX8_hintOf_121 rfl ?_
  refine mJ_ialdN dX8_hintOf_122 rfl (j := h) ⟨rfl, by omega, by omega⟩ ?_
  refine mJ_top (e3 h hh) ?_
  refine mJ_cV2v dX8_hintOf_123 e_X8_places n_X8_79 ⟨Nat.le_of_ble_eq_true rfl, Nat.le_of_ble_eq_true rfl⟩ rfl rfl (Nat.le_of_ble_eq_true rfl) (C_X8_places h3 hh ha0 ha) ?_
  refine mJ_iload_n dX8_hintOf_126 rfl ?_
  refine mJ_tin 160 dX8_hintOf_127 (by decide) (by decide) rfl rfl ?_
  refine mJ_aload_n dX8_hintOf_160 rfl ?_
  refine mJ_get dX8_hintOf_161 f_X8_26 rfl rfl ?_
  refine mJ_iload_n dX8_hintOf_164 rfl ?_
  refine mJ_ialdN dX8_hintOf_165 rfl (j := h) ⟨rfl, by omega, by omega⟩ ?_
  refine mJ_top (e3 h hh) ?_
  exact mJ_iret dX8_hintOf_166 rfl (rfl) (rfl)
set_option maxHeartbeats 4000000 in
set_option maxRecDepth 100000 in
theorem C_X8_hintOf_10n {d was text ord why son tri : aF} {sta typ at_ sig fst snd rea lef top shf arr goo shn trs : Int32} {nA nH nO : Nat} {h : Nat} (hh : h < 12) (h1 : q_rg (nI h) 0 (d 50 - 1)) (hw : wD d nA nH nO) (hi : wI d nO) (h2 : ((p_all d nA nH nO).2.1 h) = -1) : ∃ (lef' top' shf' arr' goo' : Int32) (ord' why' son' tri' : aF) (trs' : Int32), mCt k_X8_hintOf [.ref 0, .int (nI h), .int 10] (mH d was sta text typ at_ sig fst snd rea lef top shf arr goo ord why son shn tri trs) (some (.int (-10004))) (mH (d) (was) (sta) text typ at_ sig fst snd rea (lef') (top') (shf') (arr') (goo') (ord') (why') (son') ((p_all (d) nA nH nO).2.2) (tri') (trs')) := by
  obtain ⟨l1, t1, s1, a1, o1, d1, y1, n1, r1, z1, e1, e2, e3, hj⟩ := C_X8_shows (d := d) (was := was) (sta := sta) (shn := shn) (text := text) (typ := typ) (at_ := at_) (sig := sig) (fst := fst) (snd := snd) (rea := rea) (lef := lef) (top := top) (shf := shf) (arr := arr) (goo := goo) (ord := ord) (why := why) (son := son) (tri := tri) (trs := trs) hw hi
  refine ⟨l1, t1, s1, a1, o1, d1, y1, n1, r1, z1, ?_⟩
  refine mCt_intro (plainFor_of_name rfl) (Nat.le_of_ble_eq_true rfl) (m_all rfl) (ls := [_, _, _]) rfl ?_
  refine mJ_aload_n dX8_hintOf_0 rfl ?_
  refine mJ_iload_n dX8_hintOf_1 rfl ?_
  refine mJ_cV1i dX8_hintOf_2 e_X8_isHint n_X8_138 ⟨Nat.le_of_ble_eq_true rfl, Nat.le_of_ble_eq_true rfl⟩ rfl rfl (Nat.le_of_ble_eq_true rfl) (C_X8_isHint) ?_
  refine mJ_top (b2i_t h1) ?_
  refine mJ_if_eq 18 dX8_hintOf_5 rfl (fun c => absurd c (by decide)) (fun _ => ?_)
  refine mJ_iload_n dX8_hintOf_8 rfl ?_
  refine mJ_iconst (v := 0) dX8_hintOf_9 rfl ?_
  refine mJ_bipush (v := 16) dX8_hintOf_10 rfl ?_
  refine mJ_cS3i dX8_hintOf_12 e_X8_in n_X8_32 ⟨Nat.le_of_ble_eq_true rfl, Nat.le_of_ble_eq_true rfl⟩ (Nat.le_of_ble_eq_true rfl) (C_X8_in) ?_
  refine mJ_top (b2i_t ⟨by decide, by decide⟩) ?_
  refine mJ_if_ne 22 dX8_hintOf_15 rfl (fun _ => ?_) (fun c => absurd c (by decide))
  refine mJ_iload_n dX8_hintOf_22 rfl ?_
  refine mJ_bipush (v := 8) dX8_hintOf_23 rfl ?_
  refine mJ_icmp_ge 35 dX8_hintOf_25 rfl (fun _ => ?_) (fun c => absurd c (by decide))
  refine mJ_aload_n dX8_hintOf_35 rfl ?_
  refine mJ_cV0v dX8_hintOf_36 e_X8_shows n_X8_112 ⟨Nat.le_of_ble_eq_true rfl, Nat.le_of_ble_eq_true rfl⟩ rfl rfl (Nat.le_of_ble_eq_true rfl) (hj) ?_
  refine mJ_iload_n dX8_hintOf_39 rfl ?_
  refine mJ_bipush (v := 8) dX8_hintOf_40 rfl ?_
  refine mJ_icmp_ne 52 dX8_hintOf_42 rfl (fun _ => ?_) (fun c => absurd c (by decide))
  refine mJ_iload_n dX8_hintOf_52 rfl ?_
  refine mJ_bipush (v := 15) dX8_hintOf_53 rfl ?_
  refine mJ_icmp_ne 89 dX8_hintOf_55 rfl (fun _ => ?_) (fun c => absurd c (by decide))
  refine mJ_iload_n dX8_hintOf_89 rfl ?_
  refine mJ_bipush (v := 16) dX8_hintOf_90 rfl ?_
  refine mJ_icmp_ne 101 dX8_hintOf_92 rfl (fun _ => ?_) (fun c => absurd c (by decide))
  refine mJ_aload_n dX8_hintOf_101 rfl ?_
  refine mJ_get dX8_hintOf_102 f_X8_26 rfl rfl ?_
  refine mJ_iload_n dX8_hintOf_105 rfl ?_
  refine mJ_ialdN dX8_hintOf_106 rfl (j := h) ⟨rfl, by omega, by omega⟩ ?_
  refine mJ_top (e3 h hh) ?_
  refine mJ_iconst (v := (-1)) dX8_hintOf_107 rfl ?_
  refine mJ_icmp_ne 115 dX8_hintOf_108 rfl (fun c_108 => False.elim (by exact c_108 h2)) (fun c_108 => ?_)
  refine mJ_sipush (v := (-10004)) dX8_hintOf_111 rfl ?_
  exact mJ_iret dX8_hintOf_114 rfl (rfl) (rfl)
set_option maxHeartbeats 4000000 in
set_option maxRecDepth 100000 in
theorem C_X8_hintOf_10 {d was text ord why son tri : aF} {sta typ at_ sig fst snd rea lef top shf arr goo shn trs : Int32} {nA nH nO : Nat} {h a : Nat} (hh : h < 12) (h1 : q_rg (nI h) 0 (d 50 - 1)) (hw : wD d nA nH nO) (hi : wI d nO) (h2 : ¬ ((p_all d nA nH nO).2.1 h) = -1) (h3 : sd ((p_all d nA nH nO).2.1 h)) (ha0 : dH d h 0 = nI a) (ha : a < 10) : ∃ (lef' top' shf' arr' goo' : Int32) (ord' why' son' tri' : aF) (trs' : Int32), mCt k_X8_hintOf [.ref 0, .int (nI h), .int 10] (mH d was sta text typ at_ sig fst snd rea lef top shf arr goo ord why son shn tri trs) (some (.int (p_x d h ((p_all d nA nH nO).2.1 h)))) (mH (d) (was) (sta) text typ at_ sig fst snd rea (lef') (top') (shf') (arr') (goo') (ord') (why') (son') ((p_all (d) nA nH nO).2.2) (tri') (trs')) := by
  obtain ⟨l1, t1, s1, a1, o1, d1, y1, n1, r1, z1, e1, e2, e3, hj⟩ := C_X8_shows (d := d) (was := was) (sta := sta) (shn := shn) (text := text) (typ := typ) (at_ := at_) (sig := sig) (fst := fst) (snd := snd) (rea := rea) (lef := lef) (top := top) (shf := shf) (arr := arr) (goo := goo) (ord := ord) (why := why) (son := son) (tri := tri) (trs := trs) hw hi
  refine ⟨p_x d h ((p_all d nA nH nO).2.1 h), p_y d h ((p_all d nA nH nO).2.1 h), p_sh d h ((p_all d nA nH nO).2.1 h), p_ar d h ((p_all d nA nH nO).2.1 h), b2i (p_gd d h ((p_all d nA nH nO).2.1 h)), d1, y1, n1, r1, z1, ?_⟩
  refine mCt_intro (plainFor_of_name rfl) (Nat.le_of_ble_eq_true rfl) (m_all rfl) (ls := [_, _, _]) rfl ?_
  refine mJ_aload_n dX8_hintOf_0 rfl ?_
  refine mJ_iload_n dX8_hintOf_1 rfl ?_
  refine mJ_cV1i dX8_hintOf_2 e_X8_isHint n_X8_138 ⟨Nat.le_of_ble_eq_true rfl, Nat.le_of_ble_eq_true rfl⟩ rfl rfl (Nat.le_of_ble_eq_true rfl) (C_X8_isHint) ?_
  refine mJ_top (b2i_t h1) ?_
  refine mJ_if_eq 18 dX8_hintOf_5 rfl (fun c => absurd c (by decide)) (fun _ => ?_)
  refine mJ_iload_n dX8_hintOf_8 rfl ?_
  refine mJ_iconst (v := 0) dX8_hintOf_9 rfl ?_
  refine mJ_bipush (v := 16) dX8_hintOf_10 rfl ?_
  refine mJ_cS3i dX8_hintOf_12 e_X8_in n_X8_32 ⟨Nat.le_of_ble_eq_true rfl, Nat.le_of_ble_eq_true rfl⟩ (Nat.le_of_ble_eq_true rfl) (C_X8_in) ?_
  refine mJ_top (b2i_t ⟨by decide, by decide⟩) ?_
  refine mJ_if_ne 22 dX8_hintOf_15 rfl (fun _ => ?_) (fun c => absurd c (by decide))
  refine mJ_iload_n dX8_hintOf_22 rfl ?_
  refine mJ_bipush (v := 8) dX8_hintOf_23 rfl ?_
  refine mJ_icmp_ge 35 dX8_hintOf_25 rfl (fun _ => ?_) (fun c => absurd c (by decide))
  refine mJ_aload_n dX8_hintOf_35 rfl ?_
  refine mJ_cV0v dX8_hintOf_36 e_X8_shows n_X8_112 ⟨Nat.le_of_ble_eq_true rfl, Nat.le_of_ble_eq_true rfl⟩ rfl rfl (Nat.le_of_ble_eq_true rfl) (hj) ?_
  refine mJ_iload_n dX8_hintOf_39 rfl ?_
  refine mJ_bipush (v := 8) dX8_hintOf_40 rfl ?_
  refine mJ_icmp_ne 52 dX8_hintOf_42 rfl (fun _ => ?_) (fun c => absurd c (by decide))
  refine mJ_iload_n dX8_hintOf_52 rfl ?_
  refine mJ_bipush (v := 15) dX8_hintOf_53 rfl ?_
  refine mJ_icmp_ne 89 dX8_hintOf_55 rfl (fun _ => ?_) (fun c => absurd c (by decide))
  refine mJ_iload_n dX8_hintOf_89 rfl ?_
  refine mJ_bipush (v := 16) dX8_hintOf_90 rfl ?_
  refine mJ_icmp_ne 101 dX8_hintOf_92 rfl (fun _ => ?_) (fun c => absurd c (by decide))
  refine mJ_aload_n dX8_hintOf_101 rfl ?_
  refine mJ_get dX8_hintOf_102 f_X8_26 rfl rfl ?_
  refine mJ_iload_n dX8_hintOf_105 rfl ?_
  refine mJ_ialdN dX8_hintOf_106 rfl (j := h) ⟨rfl, by omega, by omega⟩ ?_
  refine mJ_top (e3 h hh) ?_
  refine mJ_iconst (v := (-1)) dX8_hintOf_107 rfl ?_
  refine mJ_icmp_ne 115 dX8_hintOf_108 rfl (fun c_108 => ?_) (fun c_108 => False.elim (by exact h2 c_108))
  refine mJ_aload_n dX8_hintOf_115 rfl ?_
  refine mJ_iload_n dX8_hintOf_116 rfl ?_
  refine mJ_aload_n dX8_hintOf_117 rfl ?_
  refine mJ_get dX8_hintOf_118 f_X8_26 rfl rfl ?_
  refine mJ_iload_n dX8_hintOf_121 rfl ?_
  refine mJ_ialdN dX8_hintOf_122 rfl (j := h) ⟨rfl, by omega, by omega⟩ ?_
  refine mJ_top (e3 h hh) ?_
  refine mJ_cV2v dX8_hintOf_123 e_X8_places n_X8_79 ⟨Nat.le_of_ble_eq_true rfl, Nat.le_of_ble_eq_true rfl⟩ rfl rfl (Nat.le_of_ble_eq_true rfl) (C_X8_places h3 hh ha0 ha) ?_
  refine mJ_iload_n dX8_hintOf_126 rfl ?_
  refine mJ_tin 167 dX8_hintOf_127 (by decide) (by decide) rfl rfl ?_
  refine mJ_aload_n dX8_hintOf_167 rfl ?_
  refine mJ_get dX8_hintOf_168 f_X8_73 rfl rfl ?_
  exact mJ_iret dX8_hintOf_171 rfl (rfl) (rfl)
set_option maxHeartbeats 4000000 in
set_option maxRecDepth 100000 in
theorem C_X8_hintOf_11n {d was text ord why son tri : aF} {sta typ at_ sig fst snd rea lef top shf arr goo shn trs : Int32} {nA nH nO : Nat} {h : Nat} (hh : h < 12) (h1 : q_rg (nI h) 0 (d 50 - 1)) (hw : wD d nA nH nO) (hi : wI d nO) (h2 : ((p_all d nA nH nO).2.1 h) = -1) : ∃ (lef' top' shf' arr' goo' : Int32) (ord' why' son' tri' : aF) (trs' : Int32), mCt k_X8_hintOf [.ref 0, .int (nI h), .int 11] (mH d was sta text typ at_ sig fst snd rea lef top shf arr goo ord why son shn tri trs) (some (.int (-10004))) (mH (d) (was) (sta) text typ at_ sig fst snd rea (lef') (top') (shf') (arr') (goo') (ord') (why') (son') ((p_all (d) nA nH nO).2.2) (tri') (trs')) := by
  obtain ⟨l1, t1, s1, a1, o1, d1, y1, n1, r1, z1, e1, e2, e3, hj⟩ := C_X8_shows (d := d) (was := was) (sta := sta) (shn := shn) (text := text) (typ := typ) (at_ := at_) (sig := sig) (fst := fst) (snd := snd) (rea := rea) (lef := lef) (top := top) (shf := shf) (arr := arr) (goo := goo) (ord := ord) (why := why) (son := son) (tri := tri) (trs := trs) hw hi
  refine ⟨l1, t1, s1, a1, o1, d1, y1, n1, r1, z1, ?_⟩
  refine mCt_intro (plainFor_of_name rfl) (Nat.le_of_ble_eq_true rfl) (m_all rfl) (ls := [_, _, _]) rfl ?_
  refine mJ_aload_n dX8_hintOf_0 rfl ?_
  refine mJ_iload_n dX8_hintOf_1 rfl ?_
  refine mJ_cV1i dX8_hintOf_2 e_X8_isHint n_X8_138 ⟨Nat.le_of_ble_eq_true rfl, Nat.le_of_ble_eq_true rfl⟩ rfl rfl (Nat.le_of_ble_eq_true rfl) (C_X8_isHint) ?_
  refine mJ_top (b2i_t h1) ?_
  refine mJ_if_eq 18 dX8_hintOf_5 rfl (fun c => absurd c (by decide)) (fun _ => ?_)
  refine mJ_iload_n dX8_hintOf_8 rfl ?_
  refine mJ_iconst (v := 0) dX8_hintOf_9 rfl ?_
  refine mJ_bipush (v := 16) dX8_hintOf_10 rfl ?_
  refine mJ_cS3i dX8_hintOf_12 e_X8_in n_X8_32 ⟨Nat.le_of_ble_eq_true rfl, Nat.le_of_ble_eq_true rfl⟩ (Nat.le_of_ble_eq_true rfl) (C_X8_in) ?_
  refine mJ_top (b2i_t ⟨by decide, by decide⟩) ?_
  refine mJ_if_ne 22 dX8_hintOf_15 rfl (fun _ => ?_) (fun c => absurd c (by decide))
  refine mJ_iload_n dX8_hintOf_22 rfl ?_
  refine mJ_bipush (v := 8) dX8_hintOf_23 rfl ?_
  refine mJ_icmp_ge 35 dX8_hintOf_25 rfl (fun _ => ?_) (fun c => absurd c (by decide))
  refine mJ_aload_n dX8_hintOf_35 rfl ?_
  refine mJ_cV0v dX8_hintOf_36 e_X8_shows n_X8_112 ⟨Nat.le_of_ble_eq_true rfl, Nat.le_of_ble_eq_true rfl⟩ rfl rfl (Nat.le_of_ble_eq_true rfl) (hj) ?_
  refine mJ_iload_n dX8_hintOf_39 rfl ?_
  refine mJ_bipush (v := 8) dX8_hintOf_40 rfl ?_
  refine mJ_icmp_ne 52 dX8_hintOf_42 rfl (fun _ => ?_) (fun c => absurd c (by decide))
  refine mJ_iload_n dX8_hintOf_52 rfl ?_
  refine mJ_bipush (v := 15) dX8_hintOf_53 rfl ?_
  refine mJ_icmp_ne 89 dX8_hintOf_55 rfl (fun _ => ?_) (fun c => absurd c (by decide))
  refine mJ_iload_n dX8_hintOf_89 rfl ?_
  refine mJ_bipush (v := 16) dX8_hintOf_90 rfl ?_
  refine mJ_icmp_ne 101 dX8_hintOf_92 rfl (fun _ => ?_) (fun c => absurd c (by decide))
  refine mJ_aload_n dX8_hintOf_101 rfl ?_
  refine mJ_get dX8_hintOf_102 f_X8_26 rfl rfl ?_
  refine mJ_iload_n dX8_hintOf_105 rfl ?_
  refine mJ_ialdN dX8_hintOf_106 rfl (j := h) ⟨rfl, by omega, by omega⟩ ?_
  refine mJ_top (e3 h hh) ?_
  refine mJ_iconst (v := (-1)) dX8_hintOf_107 rfl ?_
  refine mJ_icmp_ne 115 dX8_hintOf_108 rfl (fun c_108 => False.elim (by exact c_108 h2)) (fun c_108 => ?_)
  refine mJ_sipush (v := (-10004)) dX8_hintOf_111 rfl ?_
  exact mJ_iret dX8_hintOf_114 rfl (rfl) (rfl)
set_option maxHeartbeats 4000000 in
set_option maxRecDepth 100000 in
theorem C_X8_hintOf_11 {d was text ord why son tri : aF} {sta typ at_ sig fst snd rea lef top shf arr goo shn trs : Int32} {nA nH nO : Nat} {h a : Nat} (hh : h < 12) (h1 : q_rg (nI h) 0 (d 50 - 1)) (hw : wD d nA nH nO) (hi : wI d nO) (h2 : ¬ ((p_all d nA nH nO).2.1 h) = -1) (h3 : sd ((p_all d nA nH nO).2.1 h)) (ha0 : dH d h 0 = nI a) (ha : a < 10) : ∃ (lef' top' shf' arr' goo' : Int32) (ord' why' son' tri' : aF) (trs' : Int32), mCt k_X8_hintOf [.ref 0, .int (nI h), .int 11] (mH d was sta text typ at_ sig fst snd rea lef top shf arr goo ord why son shn tri trs) (some (.int (p_y d h ((p_all d nA nH nO).2.1 h)))) (mH (d) (was) (sta) text typ at_ sig fst snd rea (lef') (top') (shf') (arr') (goo') (ord') (why') (son') ((p_all (d) nA nH nO).2.2) (tri') (trs')) := by
  obtain ⟨l1, t1, s1, a1, o1, d1, y1, n1, r1, z1, e1, e2, e3, hj⟩ := C_X8_shows (d := d) (was := was) (sta := sta) (shn := shn) (text := text) (typ := typ) (at_ := at_) (sig := sig) (fst := fst) (snd := snd) (rea := rea) (lef := lef) (top := top) (shf := shf) (arr := arr) (goo := goo) (ord := ord) (why := why) (son := son) (tri := tri) (trs := trs) hw hi
  refine ⟨p_x d h ((p_all d nA nH nO).2.1 h), p_y d h ((p_all d nA nH nO).2.1 h), p_sh d h ((p_all d nA nH nO).2.1 h), p_ar d h ((p_all d nA nH nO).2.1 h), b2i (p_gd d h ((p_all d nA nH nO).2.1 h)), d1, y1, n1, r1, z1, ?_⟩
  refine mCt_intro (plainFor_of_name rfl) (Nat.le_of_ble_eq_true rfl) (m_all rfl) (ls := [_, _, _]) rfl ?_
  refine mJ_aload_n dX8_hintOf_0 rfl ?_
  refine mJ_iload_n dX8_hintOf_1 rfl ?_
  refine mJ_cV1i dX8_hintOf_2 e_X8_isHint n_X8_138 ⟨Nat.le_of_ble_eq_true rfl, Nat.le_of_ble_eq_true rfl⟩ rfl rfl (Nat.le_of_ble_eq_true rfl) (C_X8_isHint) ?_
  refine mJ_top (b2i_t h1) ?_
  refine mJ_if_eq 18 dX8_hintOf_5 rfl (fun c => absurd c (by decide)) (fun _ => ?_)
  refine mJ_iload_n dX8_hintOf_8 rfl ?_
  refine mJ_iconst (v := 0) dX8_hintOf_9 rfl ?_
  refine mJ_bipush (v := 16) dX8_hintOf_10 rfl ?_
  refine mJ_cS3i dX8_hintOf_12 e_X8_in n_X8_32 ⟨Nat.le_of_ble_eq_true rfl, Nat.le_of_ble_eq_true rfl⟩ (Nat.le_of_ble_eq_true rfl) (C_X8_in) ?_
  refine mJ_top (b2i_t ⟨by decide, by decide⟩) ?_
  refine mJ_if_ne 22 dX8_hintOf_15 rfl (fun _ => ?_) (fun c => absurd c (by decide))
  refine mJ_iload_n dX8_hintOf_22 rfl ?_
  refine mJ_bipush (v := 8) dX8_hintOf_23 rfl ?_
  refine mJ_icmp_ge 35 dX8_hintOf_25 rfl (fun _ => ?_) (fun c => absurd c (by decide))
  refine mJ_aload_n dX8_hintOf_35 rfl ?_
  refine mJ_cV0v dX8_hintOf_36 e_X8_shows n_X8_112 ⟨Nat.le_of_ble_eq_true rfl, Nat.le_of_ble_eq_true rfl⟩ rfl rfl (Nat.le_of_ble_eq_true rfl) (hj) ?_
  refine mJ_iload_n dX8_hintOf_39 rfl ?_
  refine mJ_bipush (v := 8) dX8_hintOf_40 rfl ?_
  refine mJ_icmp_ne 52 dX8_hintOf_42 rfl (fun _ => ?_) (fun c => absurd c (by decide))
  refine mJ_iload_n dX8_hintOf_52 rfl ?_
  refine mJ_bipush (v := 15) dX8_hintOf_53 rfl ?_
  refine mJ_icmp_ne 89 dX8_hintOf_55 rfl (fun _ => ?_) (fun c => absurd c (by decide))
  refine mJ_iload_n dX8_hintOf_89 rfl ?_
  refine mJ_bipush (v := 16) dX8_hintOf_90 rfl ?_
  refine mJ_icmp_ne 101 dX8_hintOf_92 rfl (fun _ => ?_) (fun c => absurd c (by decide))
  refine mJ_aload_n dX8_hintOf_101 rfl ?_
  refine mJ_get dX8_hintOf_102 f_X8_26 rfl rfl ?_
  refine mJ_iload_n dX8_hintOf_105 rfl ?_
  refine mJ_ialdN dX8_hintOf_106 rfl (j := h) ⟨rfl, by omega, by omega⟩ ?_
  refine mJ_top (e3 h hh) ?_
  refine mJ_iconst (v := (-1)) dX8_hintOf_107 rfl ?_
  refine mJ_icmp_ne 115 dX8_hintOf_108 rfl (fun c_108 => ?_) (fun c_108 => False.elim (by exact h2 c_108))
  refine mJ_aload_n dX8_hintOf_115 rfl ?_
  refine mJ_iload_n dX8_hintOf_116 rfl ?_
  refine mJ_aload_n dX8_hintOf_117 rfl ?_
  refine mJ_get dX8_hintOf_118 f_X8_26 rfl rfl ?_
  refine mJ_iload_n dX8_hintOf_121 rfl ?_
  refine mJ_ialdN dX8_hintOf_122 rfl (j := h) ⟨rfl, by omega, by omega⟩ ?_
  refine mJ_top (e3 h hh) ?_
  refine mJ_cV2v dX8_hintOf_123 e_X8_places n_X8_79 ⟨Nat.le_of_ble_eq_true rfl, Nat.le_of_ble_eq_true rfl⟩ rfl rfl (Nat.le_of_ble_eq_true rfl) (C_X8_places h3 hh ha0 ha) ?_
  refine mJ_iload_n dX8_hintOf_126 rfl ?_
  refine mJ_tin 172 dX8_hintOf_127 (by decide) (by decide) rfl rfl ?_
  refine mJ_aload_n dX8_hintOf_172 rfl ?_
  refine mJ_get dX8_hintOf_173 f_X8_76 rfl rfl ?_
  exact mJ_iret dX8_hintOf_176 rfl (rfl) (rfl)
set_option maxHeartbeats 4000000 in
set_option maxRecDepth 100000 in
theorem C_X8_hintOf_12n {d was text ord why son tri : aF} {sta typ at_ sig fst snd rea lef top shf arr goo shn trs : Int32} {nA nH nO : Nat} {h : Nat} (hh : h < 12) (h1 : q_rg (nI h) 0 (d 50 - 1)) (hw : wD d nA nH nO) (hi : wI d nO) (h2 : ((p_all d nA nH nO).2.1 h) = -1) : ∃ (lef' top' shf' arr' goo' : Int32) (ord' why' son' tri' : aF) (trs' : Int32), mCt k_X8_hintOf [.ref 0, .int (nI h), .int 12] (mH d was sta text typ at_ sig fst snd rea lef top shf arr goo ord why son shn tri trs) (some (.int (-10004))) (mH (d) (was) (sta) text typ at_ sig fst snd rea (lef') (top') (shf') (arr') (goo') (ord') (why') (son') ((p_all (d) nA nH nO).2.2) (tri') (trs')) := by
  obtain ⟨l1, t1, s1, a1, o1, d1, y1, n1, r1, z1, e1, e2, e3, hj⟩ := C_X8_shows (d := d) (was := was) (sta := sta) (shn := shn) (text := text) (typ := typ) (at_ := at_) (sig := sig) (fst := fst) (snd := snd) (rea := rea) (lef := lef) (top := top) (shf := shf) (arr := arr) (goo := goo) (ord := ord) (why := why) (son := son) (tri := tri) (trs := trs) hw hi
  refine ⟨l1, t1, s1, a1, o1, d1, y1, n1, r1, z1, ?_⟩
  refine mCt_intro (plainFor_of_name rfl) (Nat.le_of_ble_eq_true rfl) (m_all rfl) (ls := [_, _, _]) rfl ?_
  refine mJ_aload_n dX8_hintOf_0 rfl ?_
  refine mJ_iload_n dX8_hintOf_1 rfl ?_
  refine mJ_cV1i dX8_hintOf_2 e_X8_isHint n_X8_138 ⟨Nat.le_of_ble_eq_true rfl, Nat.le_of_ble_eq_true rfl⟩ rfl rfl (Nat.le_of_ble_eq_true rfl) (C_X8_isHint) ?_
  refine mJ_top (b2i_t h1) ?_
  refine mJ_if_eq 18 dX8_hintOf_5 rfl (fun c => absurd c (by decide)) (fun _ => ?_)
  refine mJ_iload_n dX8_hintOf_8 rfl ?_
  refine mJ_iconst (v := 0) dX8_hintOf_9 rfl ?_
  refine mJ_bipush (v := 16) dX8_hintOf_10 rfl ?_
  refine mJ_cS3i dX8_hintOf_12 e_X8_in n_X8_32 ⟨Nat.le_of_ble_eq_true rfl, Nat.le_of_ble_eq_true rfl⟩ (Nat.le_of_ble_eq_true rfl) (C_X8_in) ?_
  refine mJ_top (b2i_t ⟨by decide, by decide⟩) ?_
  refine mJ_if_ne 22 dX8_hintOf_15 rfl (fun _ => ?_) (fun c => absurd c (by decide))
  refine mJ_iload_n dX8_hintOf_22 rfl ?_
  refine mJ_bipush (v := 8) dX8_hintOf_23 rfl ?_
  refine mJ_icmp_ge 35 dX8_hintOf_25 rfl (fun _ => ?_) (fun c => absurd c (by decide))
  refine mJ_aload_n dX8_hintOf_35 rfl ?_
  refine mJ_cV0v dX8_hintOf_36 e_X8_shows n_X8_112 ⟨Nat.le_of_ble_eq_true rfl, Nat.le_of_ble_eq_true rfl⟩ rfl rfl (Nat.le_of_ble_eq_true rfl) (hj) ?_
  refine mJ_iload_n dX8_hintOf_39 rfl ?_
  refine mJ_bipush (v := 8) dX8_hintOf_40 rfl ?_
  refine mJ_icmp_ne 52 dX8_hintOf_42 rfl (fun _ => ?_) (fun c => absurd c (by decide))
  refine mJ_iload_n dX8_hintOf_52 rfl ?_
  refine mJ_bipush (v := 15) dX8_hintOf_53 rfl ?_
  refine mJ_icmp_ne 89 dX8_hintOf_55 rfl (fun _ => ?_) (fun c => absurd c (by decide))
  refine mJ_iload_n dX8_hintOf_89 rfl ?_
  refine mJ_bipush (v := 16) dX8_hintOf_90 rfl ?_
  refine mJ_icmp_ne 101 dX8_hintOf_92 rfl (fun _ => ?_) (fun c => absurd c (by decide))
  refine mJ_aload_n dX8_hintOf_101 rfl ?_
  refine mJ_get dX8_hintOf_102 f_X8_26 rfl rfl ?_
  refine mJ_iload_n dX8_hintOf_105 rfl ?_
  refine mJ_ialdN dX8_hintOf_106 rfl (j := h) ⟨rfl, by omega, by omega⟩ ?_
  refine mJ_top (e3 h hh) ?_
  refine mJ_iconst (v := (-1)) dX8_hintOf_107 rfl ?_
  refine mJ_icmp_ne 115 dX8_hintOf_108 rfl (fun c_108 => False.elim (by exact c_108 h2)) (fun c_108 => ?_)
  refine mJ_sipush (v := (-10004)) dX8_hintOf_111 rfl ?_
  exact mJ_iret dX8_hintOf_114 rfl (rfl) (rfl)
set_option maxHeartbeats 4000000 in
set_option maxRecDepth 100000 in
theorem C_X8_hintOf_12 {d was text ord why son tri : aF} {sta typ at_ sig fst snd rea lef top shf arr goo shn trs : Int32} {nA nH nO : Nat} {h a : Nat} (hh : h < 12) (h1 : q_rg (nI h) 0 (d 50 - 1)) (hw : wD d nA nH nO) (hi : wI d nO) (h2 : ¬ ((p_all d nA nH nO).2.1 h) = -1) (h3 : sd ((p_all d nA nH nO).2.1 h)) (ha0 : dH d h 0 = nI a) (ha : a < 10) : ∃ (lef' top' shf' arr' goo' : Int32) (ord' why' son' tri' : aF) (trs' : Int32), mCt k_X8_hintOf [.ref 0, .int (nI h), .int 12] (mH d was sta text typ at_ sig fst snd rea lef top shf arr goo ord why son shn tri trs) (some (.int (p_ar d h ((p_all d nA nH nO).2.1 h)))) (mH (d) (was) (sta) text typ at_ sig fst snd rea (lef') (top') (shf') (arr') (goo') (ord') (why') (son') ((p_all (d) nA nH nO).2.2) (tri') (trs')) := by
  obtain ⟨l1, t1, s1, a1, o1, d1, y1, n1, r1, z1, e1, e2, e3, hj⟩ := C_X8_shows (d := d) (was := was) (sta := sta) (shn := shn) (text := text) (typ := typ) (at_ := at_) (sig := sig) (fst := fst) (snd := snd) (rea := rea) (lef := lef) (top := top) (shf := shf) (arr := arr) (goo := goo) (ord := ord) (why := why) (son := son) (tri := tri) (trs := trs) hw hi
  refine ⟨p_x d h ((p_all d nA nH nO).2.1 h), p_y d h ((p_all d nA nH nO).2.1 h), p_sh d h ((p_all d nA nH nO).2.1 h), p_ar d h ((p_all d nA nH nO).2.1 h), b2i (p_gd d h ((p_all d nA nH nO).2.1 h)), d1, y1, n1, r1, z1, ?_⟩
  refine mCt_intro (plainFor_of_name rfl) (Nat.le_of_ble_eq_true rfl) (m_all rfl) (ls := [_, _, _]) rfl ?_
  refine mJ_aload_n dX8_hintOf_0 rfl ?_
  refine mJ_iload_n dX8_hintOf_1 rfl ?_
  refine mJ_cV1i dX8_hintOf_2 e_X8_isHint n_X8_138 ⟨Nat.le_of_ble_eq_true rfl, Nat.le_of_ble_eq_true rfl⟩ rfl rfl (Nat.le_of_ble_eq_true rfl) (C_X8_isHint) ?_
  refine mJ_top (b2i_t h1) ?_
  refine mJ_if_eq 18 dX8_hintOf_5 rfl (fun c => absurd c (by decide)) (fun _ => ?_)
  refine mJ_iload_n dX8_hintOf_8 rfl ?_
  refine mJ_iconst (v := 0) dX8_hintOf_9 rfl ?_
  refine mJ_bipush (v := 16) dX8_hintOf_10 rfl ?_
  refine mJ_cS3i dX8_hintOf_12 e_X8_in n_X8_32 ⟨Nat.le_of_ble_eq_true rfl, Nat.le_of_ble_eq_true rfl⟩ (Nat.le_of_ble_eq_true rfl) (C_X8_in) ?_
  refine mJ_top (b2i_t ⟨by decide, by decide⟩) ?_
  refine mJ_if_ne 22 dX8_hintOf_15 rfl (fun _ => ?_) (fun c => absurd c (by decide))
  refine mJ_iload_n dX8_hintOf_22 rfl ?_
  refine mJ_bipush (v := 8) dX8_hintOf_23 rfl ?_
  refine mJ_icmp_ge 35 dX8_hintOf_25 rfl (fun _ => ?_) (fun c => absurd c (by decide))
  refine mJ_aload_n dX8_hintOf_35 rfl ?_
  refine mJ_cV0v dX8_hintOf_36 e_X8_shows n_X8_112 ⟨Nat.le_of_ble_eq_true rfl, Nat.le_of_ble_eq_true rfl⟩ rfl rfl (Nat.le_of_ble_eq_true rfl) (hj) ?_
  refine mJ_iload_n dX8_hintOf_39 rfl ?_
  refine mJ_bipush (v := 8) dX8_hintOf_40 rfl ?_
  refine mJ_icmp_ne 52 dX8_hintOf_42 rfl (fun _ => ?_) (fun c => absurd c (by decide))
  refine mJ_iload_n dX8_hintOf_52 rfl ?_
  refine mJ_bipush (v := 15) dX8_hintOf_53 rfl ?_
  refine mJ_icmp_ne 89 dX8_hintOf_55 rfl (fun _ => ?_) (fun c => absurd c (by decide))
  refine mJ_iload_n dX8_hintOf_89 rfl ?_
  refine mJ_bipush (v := 16) dX8_hintOf_90 rfl ?_
  refine mJ_icmp_ne 101 dX8_hintOf_92 rfl (fun _ => ?_) (fun c => absurd c (by decide))
  refine mJ_aload_n dX8_hintOf_101 rfl ?_
  refine mJ_get dX8_hintOf_102 f_X8_26 rfl rfl ?_
  refine mJ_iload_n dX8_hintOf_105 rfl ?_
  refine mJ_ialdN dX8_hintOf_106 rfl (j := h) ⟨rfl, by omega, by omega⟩ ?_
  refine mJ_top (e3 h hh) ?_
  refine mJ_iconst (v := (-1)) dX8_hintOf_107 rfl ?_
  refine mJ_icmp_ne 115 dX8_hintOf_108 rfl (fun c_108 => ?_) (fun c_108 => False.elim (by exact h2 c_108))
  refine mJ_aload_n dX8_hintOf_115 rfl ?_
  refine mJ_iload_n dX8_hintOf_116 rfl ?_
  refine mJ_aload_n dX8_hintOf_117 rfl ?_
  refine mJ_get dX8_hintOf_118 f_X8_26 rfl rfl ?_
  refine mJ_iload_n dX8_hintOf_121 rfl ?_
  refine mJ_ialdN dX8_hintOf_122 rfl (j := h) ⟨rfl, by omega, by omega⟩ ?_
  refine mJ_top (e3 h hh) ?_
  refine mJ_cV2v dX8_hintOf_123 e_X8_places n_X8_79 ⟨Nat.le_of_ble_eq_true rfl, Nat.le_of_ble_eq_true rfl⟩ rfl rfl (Nat.le_of_ble_eq_true rfl) (C_X8_places h3 hh ha0 ha) ?_
  refine mJ_iload_n dX8_hintOf_126 rfl ?_
  refine mJ_tin 177 dX8_hintOf_127 (by decide) (by decide) rfl rfl ?_
  refine mJ_aload_n dX8_hintOf_177 rfl ?_
  refine mJ_get dX8_hintOf_178 f_X8_59 rfl rfl ?_
  exact mJ_iret dX8_hintOf_181 rfl (rfl) (rfl)
set_option maxHeartbeats 4000000 in
set_option maxRecDepth 100000 in
theorem C_X8_hintOf_13n {d was text ord why son tri : aF} {sta typ at_ sig fst snd rea lef top shf arr goo shn trs : Int32} {nA nH nO : Nat} {h : Nat} (hh : h < 12) (h1 : q_rg (nI h) 0 (d 50 - 1)) (hw : wD d nA nH nO) (hi : wI d nO) (h2 : ((p_all d nA nH nO).2.1 h) = -1) : ∃ (lef' top' shf' arr' goo' : Int32) (ord' why' son' tri' : aF) (trs' : Int32), mCt k_X8_hintOf [.ref 0, .int (nI h), .int 13] (mH d was sta text typ at_ sig fst snd rea lef top shf arr goo ord why son shn tri trs) (some (.int (-10004))) (mH (d) (was) (sta) text typ at_ sig fst snd rea (lef') (top') (shf') (arr') (goo') (ord') (why') (son') ((p_all (d) nA nH nO).2.2) (tri') (trs')) := by
  obtain ⟨l1, t1, s1, a1, o1, d1, y1, n1, r1, z1, e1, e2, e3, hj⟩ := C_X8_shows (d := d) (was := was) (sta := sta) (shn := shn) (text := text) (typ := typ) (at_ := at_) (sig := sig) (fst := fst) (snd := snd) (rea := rea) (lef := lef) (top := top) (shf := shf) (arr := arr) (goo := goo) (ord := ord) (why := why) (son := son) (tri := tri) (trs := trs) hw hi
  refine ⟨l1, t1, s1, a1, o1, d1, y1, n1, r1, z1, ?_⟩
  refine mCt_intro (plainFor_of_name rfl) (Nat.le_of_ble_eq_true rfl) (m_all rfl) (ls := [_, _, _]) rfl ?_
  refine mJ_aload_n dX8_hintOf_0 rfl ?_
  refine mJ_iload_n dX8_hintOf_1 rfl ?_
  refine mJ_cV1i dX8_hintOf_2 e_X8_isHint n_X8_138 ⟨Nat.le_of_ble_eq_true rfl, Nat.le_of_ble_eq_true rfl⟩ rfl rfl (Nat.le_of_ble_eq_true rfl) (C_X8_isHint) ?_
  refine mJ_top (b2i_t h1) ?_
  refine mJ_if_eq 18 dX8_hintOf_5 rfl (fun c => absurd c (by decide)) (fun _ => ?_)
  refine mJ_iload_n dX8_hintOf_8 rfl ?_
  refine mJ_iconst (v := 0) dX8_hintOf_9 rfl ?_
  refine mJ_bipush (v := 16) dX8_hintOf_10 rfl ?_
  refine mJ_cS3i dX8_hintOf_12 e_X8_in n_X8_32 ⟨Nat.le_of_ble_eq_true rfl, Nat.le_of_ble_eq_true rfl⟩ (Nat.le_of_ble_eq_true rfl) (C_X8_in) ?_
  refine mJ_top (b2i_t ⟨by decide, by decide⟩) ?_
  refine mJ_if_ne 22 dX8_hintOf_15 rfl (fun _ => ?_) (fun c => absurd c (by decide))
  refine mJ_iload_n dX8_hintOf_22 rfl ?_
  refine mJ_bipush (v := 8) dX8_hintOf_23 rfl ?_
  refine mJ_icmp_ge 35 dX8_hintOf_25 rfl (fun _ => ?_) (fun c => absurd c (by decide))
  refine mJ_aload_n dX8_hintOf_35 rfl ?_
  refine mJ_cV0v dX8_hintOf_36 e_X8_shows n_X8_112 ⟨Nat.le_of_ble_eq_true rfl, Nat.le_of_ble_eq_true rfl⟩ rfl rfl (Nat.le_of_ble_eq_true rfl) (hj) ?_
  refine mJ_iload_n dX8_hintOf_39 rfl ?_
  refine mJ_bipush (v := 8) dX8_hintOf_40 rfl ?_
  refine mJ_icmp_ne 52 dX8_hintOf_42 rfl (fun _ => ?_) (fun c => absurd c (by decide))
  refine mJ_iload_n dX8_hintOf_52 rfl ?_
  refine mJ_bipush (v := 15) dX8_hintOf_53 rfl ?_
  refine mJ_icmp_ne 89 dX8_hintOf_55 rfl (fun _ => ?_) (fun c => absurd c (by decide))
  refine mJ_iload_n dX8_hintOf_89 rfl ?_
  refine mJ_bipush (v := 16) dX8_hintOf_90 rfl ?_
  refine mJ_icmp_ne 101 dX8_hintOf_92 rfl (fun _ => ?_) (fun c => absurd c (by decide))
  refine mJ_aload_n dX8_hintOf_101 rfl ?_
  refine mJ_get dX8_hintOf_102 f_X8_26 rfl rfl ?_
  refine mJ_iload_n dX8_hintOf_105 rfl ?_
  refine mJ_ialdN dX8_hintOf_106 rfl (j := h) ⟨rfl, by omega, by omega⟩ ?_
  refine mJ_top (e3 h hh) ?_
  refine mJ_iconst (v := (-1)) dX8_hintOf_107 rfl ?_
  refine mJ_icmp_ne 115 dX8_hintOf_108 rfl (fun c_108 => False.elim (by exact c_108 h2)) (fun c_108 => ?_)
  refine mJ_sipush (v := (-10004)) dX8_hintOf_111 rfl ?_
  exact mJ_iret dX8_hintOf_114 rfl (rfl) (rfl)
set_option maxHeartbeats 4000000 in
set_option maxRecDepth 100000 in
theorem C_X8_hintOf_13 {d was text ord why son tri : aF} {sta typ at_ sig fst snd rea lef top shf arr goo shn trs : Int32} {nA nH nO : Nat} {h a : Nat} (hh : h < 12) (h1 : q_rg (nI h) 0 (d 50 - 1)) (hw : wD d nA nH nO) (hi : wI d nO) (h2 : ¬ ((p_all d nA nH nO).2.1 h) = -1) (h3 : sd ((p_all d nA nH nO).2.1 h)) (ha0 : dH d h 0 = nI a) (ha : a < 10) : ∃ (lef' top' shf' arr' goo' : Int32) (ord' why' son' tri' : aF) (trs' : Int32), mCt k_X8_hintOf [.ref 0, .int (nI h), .int 13] (mH d was sta text typ at_ sig fst snd rea lef top shf arr goo ord why son shn tri trs) (some (.int (b2i (p_gd d h ((p_all d nA nH nO).2.1 h))))) (mH (d) (was) (sta) text typ at_ sig fst snd rea (lef') (top') (shf') (arr') (goo') (ord') (why') (son') ((p_all (d) nA nH nO).2.2) (tri') (trs')) := by
  obtain ⟨l1, t1, s1, a1, o1, d1, y1, n1, r1, z1, e1, e2, e3, hj⟩ := C_X8_shows (d := d) (was := was) (sta := sta) (shn := shn) (text := text) (typ := typ) (at_ := at_) (sig := sig) (fst := fst) (snd := snd) (rea := rea) (lef := lef) (top := top) (shf := shf) (arr := arr) (goo := goo) (ord := ord) (why := why) (son := son) (tri := tri) (trs := trs) hw hi
  refine ⟨p_x d h ((p_all d nA nH nO).2.1 h), p_y d h ((p_all d nA nH nO).2.1 h), p_sh d h ((p_all d nA nH nO).2.1 h), p_ar d h ((p_all d nA nH nO).2.1 h), b2i (p_gd d h ((p_all d nA nH nO).2.1 h)), d1, y1, n1, r1, z1, ?_⟩
  refine mCt_intro (plainFor_of_name rfl) (Nat.le_of_ble_eq_true rfl) (m_all rfl) (ls := [_, _, _]) rfl ?_
  refine mJ_aload_n dX8_hintOf_0 rfl ?_
  refine mJ_iload_n dX8_hintOf_1 rfl ?_
  refine mJ_cV1i dX8_hintOf_2 e_X8_isHint n_X8_138 ⟨Nat.le_of_ble_eq_true rfl, Nat.le_of_ble_eq_true rfl⟩ rfl rfl (Nat.le_of_ble_eq_true rfl) (C_X8_isHint) ?_
  refine mJ_top (b2i_t h1) ?_
  refine mJ_if_eq 18 dX8_hintOf_5 rfl (fun c => absurd c (by decide)) (fun _ => ?_)
  refine mJ_iload_n dX8_hintOf_8 rfl ?_
  refine mJ_iconst (v := 0) dX8_hintOf_9 rfl ?_
  refine mJ_bipush (v := 16) dX8_hintOf_10 rfl ?_
  refine mJ_cS3i dX8_hintOf_12 e_X8_in n_X8_32 ⟨Nat.le_of_ble_eq_true rfl, Nat.le_of_ble_eq_true rfl⟩ (Nat.le_of_ble_eq_true rfl) (C_X8_in) ?_
  refine mJ_top (b2i_t ⟨by decide, by decide⟩) ?_
  refine mJ_if_ne 22 dX8_hintOf_15 rfl (fun _ => ?_) (fun c => absurd c (by decide))
  refine mJ_iload_n dX8_hintOf_22 rfl ?_
  refine mJ_bipush (v := 8) dX8_hintOf_23 rfl ?_
  refine mJ_icmp_ge 35 dX8_hintOf_25 rfl (fun _ => ?_) (fun c => absurd c (by decide))
  refine mJ_aload_n dX8_hintOf_35 rfl ?_
  refine mJ_cV0v dX8_hintOf_36 e_X8_shows n_X8_112 ⟨Nat.le_of_ble_eq_true rfl, Nat.le_of_ble_eq_true rfl⟩ rfl rfl (Nat.le_of_ble_eq_true rfl) (hj) ?_
  refine mJ_iload_n dX8_hintOf_39 rfl ?_
  refine mJ_bipush (v := 8) dX8_hintOf_40 rfl ?_
  refine mJ_icmp_ne 52 dX8_hintOf_42 rfl (fun _ => ?_) (fun c => absurd c (by decide))
  refine mJ_iload_n dX8_hintOf_52 rfl ?_
  refine mJ_bipush (v := 15) dX8_hintOf_53 rfl ?_
  refine mJ_icmp_ne 89 dX8_hintOf_55 rfl (fun _ => ?_) (fun c => absurd c (by decide))
  refine mJ_iload_n dX8_hintOf_89 rfl ?_
  refine mJ_bipush (v := 16) dX8_hintOf_90 rfl ?_
  refine mJ_icmp_ne 101 dX8_hintOf_92 rfl (fun _ => ?_) (fun c => absurd c (by decide))
  refine mJ_aload_n dX8_hintOf_101 rfl ?_
  refine mJ_get dX8_hintOf_102 f_X8_26 rfl rfl ?_
  refine mJ_iload_n dX8_hintOf_105 rfl ?_
  refine mJ_ialdN dX8_hintOf_106 rfl (j := h) ⟨rfl, by omega, by omega⟩ ?_
  refine mJ_top (e3 h hh) ?_
  refine mJ_iconst (v := (-1)) dX8_hintOf_107 rfl ?_
  refine mJ_icmp_ne 115 dX8_hintOf_108 rfl (fun c_108 => ?_) (fun c_108 => False.elim (by exact h2 c_108))
  refine mJ_aload_n dX8_hintOf_115 rfl ?_
  refine mJ_iload_n dX8_hintOf_116 rfl ?_
  refine mJ_aload_n dX8_hintOf_117 rfl ?_
  refine mJ_get dX8_hintOf_118 f_X8_26 rfl rfl ?_
  refine mJ_iload_n dX8_hintOf_121 rfl ?_
  refine mJ_ialdN dX8_hintOf_122 rfl (j := h) ⟨rfl, by omega, by omega⟩ ?_
  refine mJ_top (e3 h hh) ?_
  refine mJ_cV2v dX8_hintOf_123 e_X8_places n_X8_79 ⟨Nat.le_of_ble_eq_true rfl, Nat.le_of_ble_eq_true rfl⟩ rfl rfl (Nat.le_of_ble_eq_true rfl) (C_X8_places h3 hh ha0 ha) ?_
  refine mJ_iload_n dX8_hintOf_126 rfl ?_
  refine mJ_tin 182 dX8_hintOf_127 (by decide) (by decide) rfl rfl ?_
  refine mJ_aload_n dX8_hintOf_182 rfl ?_
  refine mJ_get dX8_hintOf_183 f_X8_69 rfl rfl ?_
  refine mJ_b2i (fun b_186 => ?_) (fun b_186 => ?_)
  · refine mJ_if_eq 193 dX8_hintOf_186 rfl (fun c => absurd c (by decide)) (fun _ => ?_)
    refine mJ_iconst (v := 1) dX8_hintOf_189 rfl ?_
    refine mJ_goto 194 dX8_hintOf_190 rfl ?_
    exact mJ_iret dX8_hintOf_194 rfl (z_t b_186) (rfl)
  · refine mJ_if_eq 193 dX8_hintOf_186 rfl (fun _ => ?_) (fun c => absurd c (by decide))
    refine mJ_iconst (v := 0) dX8_hintOf_193 rfl ?_
    exact mJ_iret dX8_hintOf_194 rfl (z_f b_186) (rfl)
set_option maxHeartbeats 4000000 in
set_option maxRecDepth 100000 in
theorem C_X8_hintOf_14n {d was text ord why son tri : aF} {sta typ at_ sig fst snd rea lef top shf arr goo shn trs : Int32} {nA nH nO : Nat} {h : Nat} (hh : h < 12) (h1 : q_rg (nI h) 0 (d 50 - 1)) (hw : wD d nA nH nO) (hi : wI d nO) (h2 : ((p_all d nA nH nO).2.1 h) = -1) : ∃ (lef' top' shf' arr' goo' : Int32) (ord' why' son' tri' : aF) (trs' : Int32), mCt k_X8_hintOf [.ref 0, .int (nI h), .int 14] (mH d was sta text typ at_ sig fst snd rea lef top shf arr goo ord why son shn tri trs) (some (.int (-10004))) (mH (d) (was) (sta) text typ at_ sig fst snd rea (lef') (top') (shf') (arr') (goo') (ord') (why') (son') ((p_all (d) nA nH nO).2.2) (tri') (trs')) := by
  obtain ⟨l1, t1, s1, a1, o1, d1, y1, n1, r1, z1, e1, e2, e3, hj⟩ := C_X8_shows (d := d) (was := was) (sta := sta) (shn := shn) (text := text) (typ := typ) (at_ := at_) (sig := sig) (fst := fst) (snd := snd) (rea := rea) (lef := lef) (top := top) (shf := shf) (arr := arr) (goo := goo) (ord := ord) (why := why) (son := son) (tri := tri) (trs := trs) hw hi
  refine ⟨l1, t1, s1, a1, o1, d1, y1, n1, r1, z1, ?_⟩
  refine mCt_intro (plainFor_of_name rfl) (Nat.le_of_ble_eq_true rfl) (m_all rfl) (ls := [_, _, _]) rfl ?_
  refine mJ_aload_n dX8_hintOf_0 rfl ?_
  refine mJ_iload_n dX8_hintOf_1 rfl ?_
  refine mJ_cV1i dX8_hintOf_2 e_X8_isHint n_X8_138 ⟨Nat.le_of_ble_eq_true rfl, Nat.le_of_ble_eq_true rfl⟩ rfl rfl (Nat.le_of_ble_eq_true rfl) (C_X8_isHint) ?_
  refine mJ_top (b2i_t h1) ?_
  refine mJ_if_eq 18 dX8_hintOf_5 rfl (fun c => absurd c (by decide)) (fun _ => ?_)
  refine mJ_iload_n dX8_hintOf_8 rfl ?_
  refine mJ_iconst (v := 0) dX8_hintOf_9 rfl ?_
  refine mJ_bipush (v := 16) dX8_hintOf_10 rfl ?_
  refine mJ_cS3i dX8_hintOf_12 e_X8_in n_X8_32 ⟨Nat.le_of_ble_eq_true rfl, Nat.le_of_ble_eq_true rfl⟩ (Nat.le_of_ble_eq_true rfl) (C_X8_in) ?_
  refine mJ_top (b2i_t ⟨by decide, by decide⟩) ?_
  refine mJ_if_ne 22 dX8_hintOf_15 rfl (fun _ => ?_) (fun c => absurd c (by decide))
  refine mJ_iload_n dX8_hintOf_22 rfl ?_
  refine mJ_bipush (v := 8) dX8_hintOf_23 rfl ?_
  refine mJ_icmp_ge 35 dX8_hintOf_25 rfl (fun _ => ?_) (fun c => absurd c (by decide))
  refine mJ_aload_n dX8_hintOf_35 rfl ?_
  refine mJ_cV0v dX8_hintOf_36 e_X8_shows n_X8_112 ⟨Nat.le_of_ble_eq_true rfl, Nat.le_of_ble_eq_true rfl⟩ rfl rfl (Nat.le_of_ble_eq_true rfl) (hj) ?_
  refine mJ_iload_n dX8_hintOf_39 rfl ?_
  refine mJ_bipush (v := 8) dX8_hintOf_40 rfl ?_
  refine mJ_icmp_ne 52 dX8_hintOf_42 rfl (fun _ => ?_) (fun c => absurd c (by decide))
  refine mJ_iload_n dX8_hintOf_52 rfl ?_
  refine mJ_bipush (v := 15) dX8_hintOf_53 rfl ?_
  refine mJ_icmp_ne 89 dX8_hintOf_55 rfl (fun _ => ?_) (fun c => absurd c (by decide))
  refine mJ_iload_n dX8_hintOf_89 rfl ?_
  refine mJ_bipush (v := 16) dX8_hintOf_90 rfl ?_
  refine mJ_icmp_ne 101 dX8_hintOf_92 rfl (fun _ => ?_) (fun c => absurd c (by decide))
  refine mJ_aload_n dX8_hintOf_101 rfl ?_
  refine mJ_get dX8_hintOf_102 f_X8_26 rfl rfl ?_
  refine mJ_iload_n dX8_hintOf_105 rfl ?_
  refine mJ_ialdN dX8_hintOf_106 rfl (j := h) ⟨rfl, by omega, by omega⟩ ?_
  refine mJ_top (e3 h hh) ?_
  refine mJ_iconst (v := (-1)) dX8_hintOf_107 rfl ?_
  refine mJ_icmp_ne 115 dX8_hintOf_108 rfl (fun c_108 => False.elim (by exact c_108 h2)) (fun c_108 => ?_)
  refine mJ_sipush (v := (-10004)) dX8_hintOf_111 rfl ?_
  exact mJ_iret dX8_hintOf_114 rfl (rfl) (rfl)
set_option maxHeartbeats 4000000 in
set_option maxRecDepth 100000 in
theorem C_X8_hintOf_14 {d was text ord why son tri : aF} {sta typ at_ sig fst snd rea lef top shf arr goo shn trs : Int32} {nA nH nO : Nat} {h a : Nat} (hh : h < 12) (h1 : q_rg (nI h) 0 (d 50 - 1)) (hw : wD d nA nH nO) (hi : wI d nO) (h2 : ¬ ((p_all d nA nH nO).2.1 h) = -1) (h3 : sd ((p_all d nA nH nO).2.1 h)) (ha0 : dH d h 0 = nI a) (ha : a < 10) : ∃ (lef' top' shf' arr' goo' : Int32) (ord' why' son' tri' : aF) (trs' : Int32), mCt k_X8_hintOf [.ref 0, .int (nI h), .int 14] (mH d was sta text typ at_ sig fst snd rea lef top shf arr goo ord why son shn tri trs) (some (.int (p_sh d h ((p_all d nA nH nO).2.1 h)))) (mH (d) (was) (sta) text typ at_ sig fst snd rea (lef') (top') (shf') (arr') (goo') (ord') (why') (son') ((p_all (d) nA nH nO).2.2) (tri') (trs')) := by
  obtain ⟨l1, t1, s1, a1, o1, d1, y1, n1, r1, z1, e1, e2, e3, hj⟩ := C_X8_shows (d := d) (was := was) (sta := sta) (shn := shn) (text := text) (typ := typ) (at_ := at_) (sig := sig) (fst := fst) (snd := snd) (rea := rea) (lef := lef) (top := top) (shf := shf) (arr := arr) (goo := goo) (ord := ord) (why := why) (son := son) (tri := tri) (trs := trs) hw hi
  refine ⟨p_x d h ((p_all d nA nH nO).2.1 h), p_y d h ((p_all d nA nH nO).2.1 h), p_sh d h ((p_all d nA nH nO).2.1 h), p_ar d h ((p_all d nA nH nO).2.1 h), b2i (p_gd d h ((p_all d nA nH nO).2.1 h)), d1, y1, n1, r1, z1, ?_⟩
  refine mCt_intro (plainFor_of_name rfl) (Nat.le_of_ble_eq_true rfl) (m_all rfl) (ls := [_, _, _]) rfl ?_
  refine mJ_aload_n dX8_hintOf_0 rfl ?_
  refine mJ_iload_n dX8_hintOf_1 rfl ?_
  refine mJ_cV1i dX8_hintOf_2 e_X8_isHint n_X8_138 ⟨Nat.le_of_ble_eq_true rfl, Nat.le_of_ble_eq_true rfl⟩ rfl rfl (Nat.le_of_ble_eq_true rfl) (C_X8_isHint) ?_
  refine mJ_top (b2i_t h1) ?_
  refine mJ_if_eq 18 dX8_hintOf_5 rfl (fun c => absurd c (by decide)) (fun _ => ?_)
  refine mJ_iload_n dX8_hintOf_8 rfl ?_
  refine mJ_iconst (v := 0) dX8_hintOf_9 rfl ?_
  refine mJ_bipush (v := 16) dX8_hintOf_10 rfl ?_
  refine mJ_cS3i dX8_hintOf_12 e_X8_in n_X8_32 ⟨Nat.le_of_ble_eq_true rfl, Nat.le_of_ble_eq_true rfl⟩ (Nat.le_of_ble_eq_true rfl) (C_X8_in) ?_
  refine mJ_top (b2i_t ⟨by decide, by decide⟩) ?_
  refine mJ_if_ne 22 dX8_hintOf_15 rfl (fun _ => ?_) (fun c => absurd c (by decide))
  refine mJ_iload_n dX8_hintOf_22 rfl ?_
  refine mJ_bipush (v := 8) dX8_hintOf_23 rfl ?_
  refine mJ_icmp_ge 35 dX8_hintOf_25 rfl (fun _ => ?_) (fun c => absurd c (by decide))
  refine mJ_aload_n dX8_hintOf_35 rfl ?_
  refine mJ_cV0v dX8_hintOf_36 e_X8_shows n_X8_112 ⟨Nat.le_of_ble_eq_true rfl, Nat.le_of_ble_eq_true rfl⟩ rfl rfl (Nat.le_of_ble_eq_true rfl) (hj) ?_
  refine mJ_iload_n dX8_hintOf_39 rfl ?_
  refine mJ_bipush (v := 8) dX8_hintOf_40 rfl ?_
  refine mJ_icmp_ne 52 dX8_hintOf_42 rfl (fun _ => ?_) (fun c => absurd c (by decide))
  refine mJ_iload_n dX8_hintOf_52 rfl ?_
  refine mJ_bipush (v := 15) dX8_hintOf_53 rfl ?_
  refine mJ_icmp_ne 89 dX8_hintOf_55 rfl (fun _ => ?_) (fun c => absurd c (by decide))
  refine mJ_iload_n dX8_hintOf_89 rfl ?_
  refine mJ_bipush (v := 16) dX8_hintOf_90 rfl ?_
  refine mJ_icmp_ne 101 dX8_hintOf_92 rfl (fun _ => ?_) (fun c => absurd c (by decide))
  refine mJ_aload_n dX8_hintOf_101 rfl ?_
  refine mJ_get dX8_hintOf_102 f_X8_26 rfl rfl ?_
  refine mJ_iload_n dX8_hintOf_105 rfl ?_
  refine mJ_ialdN dX8_hintOf_106 rfl (j := h) ⟨rfl, by omega, by omega⟩ ?_
  refine mJ_top (e3 h hh) ?_
  refine mJ_iconst (v := (-1)) dX8_hintOf_107 rfl ?_
  refine mJ_icmp_ne 115 dX8_hintOf_108 rfl (fun c_108 => ?_) (fun c_108 => False.elim (by exact h2 c_108))
  refine mJ_aload_n dX8_hintOf_115 rfl ?_
  refine mJ_iload_n dX8_hintOf_116 rfl ?_
  refine mJ_aload_n dX8_hintOf_117 rfl ?_
  refine mJ_get dX8_hintOf_118 f_X8_26 rfl rfl ?_
  refine mJ_iload_n dX8_hintOf_121 rfl ?_
  refine mJ_ialdN dX8_hintOf_122 rfl (j := h) ⟨rfl, by omega, by omega⟩ ?_
  refine mJ_top (e3 h hh) ?_
  refine mJ_cV2v dX8_hintOf_123 e_X8_places n_X8_79 ⟨Nat.le_of_ble_eq_true rfl, Nat.le_of_ble_eq_true rfl⟩ rfl rfl (Nat.le_of_ble_eq_true rfl) (C_X8_places h3 hh ha0 ha) ?_
  refine mJ_iload_n dX8_hintOf_126 rfl ?_
  refine mJ_tout 195 dX8_hintOf_127 (by decide) rfl ?_
  refine mJ_aload_n dX8_hintOf_195 rfl ?_
  refine mJ_get dX8_hintOf_196 f_X8_66 rfl rfl ?_
  exact mJ_iret dX8_hintOf_199 rfl (rfl) (rfl)
set_option maxHeartbeats 4000000 in
set_option maxRecDepth 100000 in
theorem C_X8_ifOn_bad {d was text ord why son tri : aF} {sta typ at_ sig fst snd rea lef top shf arr goo shn trs : Int32} {h s w : Int32} (hb : ¬ (q_rg h 0 (d 50 - 1) ∧ q_rg s 0 3 ∧ q_rg w 0 4)) : mCt k_X8_ifOn [.ref 0, .int h, .int s, .int w] (mH d was sta text typ at_ sig fst snd rea lef top shf arr goo ord why son shn tri trs) (some (.int (-10001))) (mH d was sta text typ at_ sig fst snd rea lef top shf arr goo ord why son shn tri trs) := by
  refine mCt_intro (plainFor_of_name rfl) (Nat.le_of_ble_eq_true rfl) (m_all rfl) (ls := [_, _, _, _, _]) rfl ?_
  refine mJ_aload_n dX8_ifOn_0 rfl ?_
  refine mJ_iload_n dX8_ifOn_1 rfl ?_
  refine mJ_cV1i dX8_ifOn_2 e_X8_isHint n_X8_138 ⟨Nat.le_of_ble_eq_true rfl, Nat.le_of_ble_eq_true rfl⟩ rfl rfl (Nat.le_of_ble_eq_true rfl) (C_X8_isHint) ?_
  refine mJ_b2i (fun b_2 => ?_) (fun b_2 => ?_)
  · refine mJ_if_eq 26 dX8_ifOn_5 rfl (fun c => absurd c (by decide)) (fun _ => ?_)
    refine mJ_iload_n dX8_ifOn_8 rfl ?_
    refine mJ_iconst (v := 0) dX8_ifOn_9 rfl ?_
    refine mJ_iconst (v := 3) dX8_ifOn_10 rfl ?_
    refine mJ_cS3i dX8_ifOn_11 e_X8_in n_X8_32 ⟨Nat.le_of_ble_eq_true rfl, Nat.le_of_ble_eq_true rfl⟩ (Nat.le_of_ble_eq_true rfl) (C_X8_in) ?_
    refine mJ_b2i (fun b_11 => ?_) (fun b_11 => ?_)
    · refine mJ_if_eq 26 dX8_ifOn_14 rfl (fun c => absurd c (by decide)) (fun _ => ?_)
      refine mJ_iload_n dX8_ifOn_17 rfl ?_
      refine mJ_iconst (v := 0) dX8_ifOn_18 rfl ?_
      refine mJ_iconst (v := 4) dX8_ifOn_19 rfl ?_
      refine mJ_cS3i dX8_ifOn_20 e_X8_in n_X8_32 ⟨Nat.le_of_ble_eq_true rfl, Nat.le_of_ble_eq_true rfl⟩ (Nat.le_of_ble_eq_true rfl) (C_X8_in) ?_
      refine mJ_b2i (fun b_20 => ?_) (fun b_20 => ?_)
      · exact False.elim (by exact hb ⟨b_2, b_11, b_20⟩)
      · refine mJ_if_ne 30 dX8_ifOn_23 rfl (fun c => absurd c (by decide)) (fun _ => ?_)
        refine mJ_sipush (v := (-10001)) dX8_ifOn_26 rfl ?_
        exact mJ_iret dX8_ifOn_29 rfl (rfl) (rfl)
    · refine mJ_if_eq 26 dX8_ifOn_14 rfl (fun _ => ?_) (fun c => absurd c (by decide))
      refine mJ_sipush (v := (-10001)) dX8_ifOn_26 rfl ?_
      exact mJ_iret dX8_ifOn_29 rfl (rfl) (rfl)
  · refine mJ_if_eq 26 dX8_ifOn_5 rfl (fun _ => ?_) (fun c => absurd c (by decide))
    refine mJ_sipush (v := (-10001)) dX8_ifOn_26 rfl ?_
    exact mJ_iret dX8_ifOn_29 rfl (rfl) (rfl)
set_option maxHeartbeats 4000000 in
set_option maxRecDepth 100000 in
theorem C_X8_ifOn_0 {d was text ord why son tri : aF} {sta typ at_ sig fst snd rea lef top shf arr goo shn trs : Int32}  {h a : Nat} {s : Int32} (hh : h < 12) (h1 : q_rg (nI h) 0 (d 50 - 1)) (hs : sd s) (h2 : q_rg s 0 3) (ha0 : dH d h 0 = nI a) (ha : a < 10) : mCt k_X8_ifOn [.ref 0, .int (nI h), .int s, .int 0] (mH d was sta text typ at_ sig fst snd rea lef top shf arr goo ord why son shn tri trs) (some (.int (b2i (p_in d h s)))) (mH (d) (was) (sta) text typ at_ sig fst snd rea (p_x d h s) (p_y d h s) (p_sh d h s) (p_ar d h s) (b2i (p_gd d h s)) ord why son shn tri trs) := by
  refine mCt_intro (plainFor_of_name rfl) (Nat.le_of_ble_eq_true rfl) (m_all rfl) (ls := [_, _, _, _, _]) rfl ?_
  refine mJ_aload_n dX8_ifOn_0 rfl ?_
  refine mJ_iload_n dX8_ifOn_1 rfl ?_
  refine mJ_cV1i dX8_ifOn_2 e_X8_isHint n_X8_138 ⟨Nat.le_of_ble_eq_true rfl, Nat.le_of_ble_eq_true rfl⟩ rfl rfl (Nat.le_of_ble_eq_true rfl) (C_X8_isHint) ?_
  refine mJ_top (b2i_t h1) ?_
  refine mJ_if_eq 26 dX8_ifOn_5 rfl (fun c => absurd c (by decide)) (fun _ => ?_)
  refine mJ_iload_n dX8_ifOn_8 rfl ?_
  refine mJ_iconst (v := 0) dX8_ifOn_9 rfl ?_
  refine mJ_iconst (v := 3) dX8_ifOn_10 rfl ?_
  refine mJ_cS3i dX8_ifOn_11 e_X8_in n_X8_32 ⟨Nat.le_of_ble_eq_true rfl, Nat.le_of_ble_eq_true rfl⟩ (Nat.le_of_ble_eq_true rfl) (C_X8_in) ?_
  refine mJ_top (b2i_t h2) ?_
  refine mJ_if_eq 26 dX8_ifOn_14 rfl (fun c => absurd c (by decide)) (fun _ => ?_)
  refine mJ_iload_n dX8_ifOn_17 rfl ?_
  refine mJ_iconst (v := 0) dX8_ifOn_18 rfl ?_
  refine mJ_iconst (v := 4) dX8_ifOn_19 rfl ?_
  refine mJ_cS3i dX8_ifOn_20 e_X8_in n_X8_32 ⟨Nat.le_of_ble_eq_true rfl, Nat.le_of_ble_eq_true rfl⟩ (Nat.le_of_ble_eq_true rfl) (C_X8_in) ?_
  refine mJ_top (b2i_t ⟨by decide, by decide⟩) ?_
  refine mJ_if_ne 30 dX8_ifOn_23 rfl (fun _ => ?_) (fun c => absurd c (by decide))
  refine mJ_aload_n dX8_ifOn_30 rfl ?_
  refine mJ_iload_n dX8_ifOn_31 rfl ?_
  refine mJ_iload_n dX8_ifOn_32 rfl ?_
  refine mJ_cV2i dX8_ifOn_33 e_X8_isIn n_X8_93 ⟨Nat.le_of_ble_eq_true rfl, Nat.le_of_ble_eq_true rfl⟩ rfl rfl (Nat.le_of_ble_eq_true rfl) (C_X8_isIn hs hh ha0 ha) ?_
  refine mJ_b2i (fun b_33 => ?_) (fun b_33 => ?_)
  · refine mJ_istore dX8_ifOn_36 (Nat.le_of_ble_eq_true rfl) (ls2 := [_, _, _, _, _]) rfl ?_
    refine mJ_iload_n dX8_ifOn_38 rfl ?_
    refine mJ_tin 68 dX8_ifOn_39 (by decide) (by decide) rfl rfl ?_
    refine mJ_iload dX8_ifOn_68 rfl ?_
    refine mJ_if_eq 77 dX8_ifOn_70 rfl (fun c => absurd c (by decide)) (fun _ => ?_)
    refine mJ_iconst (v := 1) dX8_ifOn_73 rfl ?_
    refine mJ_goto 78 dX8_ifOn_74 rfl ?_
    exact mJ_iret dX8_ifOn_78 rfl (z_t b_33) (rfl)
  · refine mJ_istore dX8_ifOn_36 (Nat.le_of_ble_eq_true rfl) (ls2 := [_, _, _, _, _]) rfl ?_
    refine mJ_iload_n dX8_ifOn_38 rfl ?_
    refine mJ_tin 68 dX8_ifOn_39 (by decide) (by decide) rfl rfl ?_
    refine mJ_iload dX8_ifOn_68 rfl ?_
    refine mJ_if_eq 77 dX8_ifOn_70 rfl (fun _ => ?_) (fun c => absurd c (by decide))
    refine mJ_iconst (v := 0) dX8_ifOn_77 rfl ?_
    exact mJ_iret dX8_ifOn_78 rfl (z_f b_33) (rfl)
set_option maxHeartbeats 4000000 in
set_option maxRecDepth 100000 in
theorem C_X8_ifOn_1 {d was text ord why son tri : aF} {sta typ at_ sig fst snd rea lef top shf arr goo shn trs : Int32}  {h a : Nat} {s : Int32} (hh : h < 12) (h1 : q_rg (nI h) 0 (d 50 - 1)) (hs : sd s) (h2 : q_rg s 0 3) (ha0 : dH d h 0 = nI a) (ha : a < 10) : mCt k_X8_ifOn [.ref 0, .int (nI h), .int s, .int 1] (mH d was sta text typ at_ sig fst snd rea lef top shf arr goo ord why son shn tri trs) (some (.int (p_x d h s))) (mH (d) (was) (sta) text typ at_ sig fst snd rea (p_x d h s) (p_y d h s) (p_sh d h s) (p_ar d h s) (b2i (p_gd d h s)) ord why son shn tri trs) := by
  refine mCt_intro (plainFor_of_name rfl) (Nat.le_of_ble_eq_true rfl) (m_all rfl) (ls := [_, _, _, _, _]) rfl ?_
  refine mJ_aload_n dX8_ifOn_0 rfl ?_
  refine mJ_iload_n dX8_ifOn_1 rfl ?_
  refine mJ_cV1i dX8_ifOn_2 e_X8_isHint n_X8_138 ⟨Nat.le_of_ble_eq_true rfl, Nat.le_of_ble_eq_true rfl⟩ rfl rfl (Nat.le_of_ble_eq_true rfl) (C_X8_isHint) ?_
  refine mJ_top (b2i_t h1) ?_
  refine mJ_if_eq 26 dX8_ifOn_5 rfl (fun c => absurd c (by decide)) (fun _ => ?_)
  refine mJ_iload_n dX8_ifOn_8 rfl ?_
  refine mJ_iconst (v := 0) dX8_ifOn_9 rfl ?_
  refine mJ_iconst (v := 3) dX8_ifOn_10 rfl ?_
  refine mJ_cS3i dX8_ifOn_11 e_X8_in n_X8_32 ⟨Nat.le_of_ble_eq_true rfl, Nat.le_of_ble_eq_true rfl⟩ (Nat.le_of_ble_eq_true rfl) (C_X8_in) ?_
  refine mJ_top (b2i_t h2) ?_
  refine mJ_if_eq 26 dX8_ifOn_14 rfl (fun c => absurd c (by decide)) (fun _ => ?_)
  refine mJ_iload_n dX8_ifOn_17 rfl ?_
  refine mJ_iconst (v := 0) dX8_ifOn_18 rfl ?_
  refine mJ_iconst (v := 4) dX8_ifOn_19 rfl ?_
  refine mJ_cS3i dX8_ifOn_20 e_X8_in n_X8_32 ⟨Nat.le_of_ble_eq_true rfl, Nat.le_of_ble_eq_true rfl⟩ (Nat.le_of_ble_eq_true rfl) (C_X8_in) ?_
  refine mJ_top (b2i_t ⟨by decide, by decide⟩) ?_
  refine mJ_if_ne 30 dX8_ifOn_23 rfl (fun _ => ?_) (fun c => absurd c (by decide))
  refine mJ_aload_n dX8_ifOn_30 rfl ?_
  refine mJ_iload_n dX8_ifOn_31 rfl ?_
  refine mJ_iload_n dX8_ifOn_32 rfl ?_
  refine mJ_cV2i dX8_ifOn_33 e_X8_isIn n_X8_93 ⟨Nat.le_of_ble_eq_true rfl, Nat.le_of_ble_eq_true rfl⟩ rfl rfl (Nat.le_of_ble_eq_true rfl) (C_X8_isIn hs hh ha0 ha) ?_
  refine mJ_istore dX8_ifOn_36 (Nat.le_of_ble_eq_true rfl) (ls2 := [_, _, _, _, _]) rfl ?_
  refine mJ_iload_n dX8_ifOn_38 rfl ?_
  refine mJ_tin 79 dX8_ifOn_39 (by decide) (by decide) rfl rfl ?_
  refine mJ_aload_n dX8_ifOn_79 rfl ?_
  refine mJ_get dX8_ifOn_80 f_X8_73 rfl rfl ?_
  exact mJ_iret dX8_ifOn_83 rfl (rfl) (rfl)
set_option maxHeartbeats 4000000 in
set_option maxRecDepth 100000 in
theorem C_X8_ifOn_2 {d was text ord why son tri : aF} {sta typ at_ sig fst snd rea lef top shf arr goo shn trs : Int32}  {h a : Nat} {s : Int32} (hh : h < 12) (h1 : q_rg (nI h) 0 (d 50 - 1)) (hs : sd s) (h2 : q_rg s 0 3) (ha0 : dH d h 0 = nI a) (ha : a < 10) : mCt k_X8_ifOn [.ref 0, .int (nI h), .int s, .int 2] (mH d was sta text typ at_ sig fst snd rea lef top shf arr goo ord why son shn tri trs) (some (.int (p_y d h s))) (mH (d) (was) (sta) text typ at_ sig fst snd rea (p_x d h s) (p_y d h s) (p_sh d h s) (p_ar d h s) (b2i (p_gd d h s)) ord why son shn tri trs) := by
  refine mCt_intro (plainFor_of_name rfl) (Nat.le_of_ble_eq_true rfl) (m_all rfl) (ls := [_, _, _, _, _]) rfl ?_
  refine mJ_aload_n dX8_ifOn_0 rfl ?_
  refine mJ_iload_n dX8_ifOn_1 rfl ?_
  refine mJ_cV1i dX8_ifOn_2 e_X8_isHint n_X8_138 ⟨Nat.le_of_ble_eq_true rfl, Nat.le_of_ble_eq_true rfl⟩ rfl rfl (Nat.le_of_ble_eq_true rfl) (C_X8_isHint) ?_
  refine mJ_top (b2i_t h1) ?_
  refine mJ_if_eq 26 dX8_ifOn_5 rfl (fun c => absurd c (by decide)) (fun _ => ?_)
  refine mJ_iload_n dX8_ifOn_8 rfl ?_
  refine mJ_iconst (v := 0) dX8_ifOn_9 rfl ?_
  refine mJ_iconst (v := 3) dX8_ifOn_10 rfl ?_
  refine mJ_cS3i dX8_ifOn_11 e_X8_in n_X8_32 ⟨Nat.le_of_ble_eq_true rfl, Nat.le_of_ble_eq_true rfl⟩ (Nat.le_of_ble_eq_true rfl) (C_X8_in) ?_
  refine mJ_top (b2i_t h2) ?_
  refine mJ_if_eq 26 dX8_ifOn_14 rfl (fun c => absurd c (by decide)) (fun _ => ?_)
  refine mJ_iload_n dX8_ifOn_17 rfl ?_
  refine mJ_iconst (v := 0) dX8_ifOn_18 rfl ?_
  refine mJ_iconst (v := 4) dX8_ifOn_19 rfl ?_
  refine mJ_cS3i dX8_ifOn_20 e_X8_in n_X8_32 ⟨Nat.le_of_ble_eq_true rfl, Nat.le_of_ble_eq_true rfl⟩ (Nat.le_of_ble_eq_true rfl) (C_X8_in) ?_
  refine mJ_top (b2i_t ⟨by decide, by decide⟩) ?_
  refine mJ_if_ne 30 dX8_ifOn_23 rfl (fun _ => ?_) (fun c => absurd c (by decide))
  refine mJ_aload_n dX8_ifOn_30 rfl ?_
  refine mJ_iload_n dX8_ifOn_31 rfl ?_
  refine mJ_iload_n dX8_ifOn_32 rfl ?_
  refine mJ_cV2i dX8_ifOn_33 e_X8_isIn n_X8_93 ⟨Nat.le_of_ble_eq_true rfl, Nat.le_of_ble_eq_true rfl⟩ rfl rfl (Nat.le_of_ble_eq_true rfl) (C_X8_isIn hs hh ha0 ha) ?_
  refine mJ_istore dX8_ifOn_36 (Nat.le_of_ble_eq_true rfl) (ls2 := [_, _, _, _, _]) rfl ?_
  refine mJ_iload_n dX8_ifOn_38 rfl ?_
  refine mJ_tin 84 dX8_ifOn_39 (by decide) (by decide) rfl rfl ?_
  refine mJ_aload_n dX8_ifOn_84 rfl ?_
  refine mJ_get dX8_ifOn_85 f_X8_76 rfl rfl ?_
  exact mJ_iret dX8_ifOn_88 rfl (rfl) (rfl)
set_option maxHeartbeats 4000000 in
set_option maxRecDepth 100000 in
theorem C_X8_ifOn_3 {d was text ord why son tri : aF} {sta typ at_ sig fst snd rea lef top shf arr goo shn trs : Int32}  {h a : Nat} {s : Int32} (hh : h < 12) (h1 : q_rg (nI h) 0 (d 50 - 1)) (hs : sd s) (h2 : q_rg s 0 3) (ha0 : dH d h 0 = nI a) (ha : a < 10) : mCt k_X8_ifOn [.ref 0, .int (nI h), .int s, .int 3] (mH d was sta text typ at_ sig fst snd rea lef top shf arr goo ord why son shn tri trs) (some (.int (p_sh d h s))) (mH (d) (was) (sta) text typ at_ sig fst snd rea (p_x d h s) (p_y d h s) (p_sh d h s) (p_ar d h s) (b2i (p_gd d h s)) ord why son shn tri trs) := by
  refine mCt_intro (plainFor_of_name rfl) (Nat.le_of_ble_eq_true rfl) (m_all rfl) (ls := [_, _, _, _, _]) rfl ?_
  refine mJ_aload_n dX8_ifOn_0 rfl ?_
  refine mJ_iload_n dX8_ifOn_1 rfl ?_
  refine mJ_cV1i dX8_ifOn_2 e_X8_isHint n_X8_138 ⟨Nat.le_of_ble_eq_true rfl, Nat.le_of_ble_eq_true rfl⟩ rfl rfl (Nat.le_of_ble_eq_true rfl) (C_X8_isHint) ?_
  refine mJ_top (b2i_t h1) ?_
  refine mJ_if_eq 26 dX8_ifOn_5 rfl (fun c => absurd c (by decide)) (fun _ => ?_)
  refine mJ_iload_n dX8_ifOn_8 rfl ?_
  refine mJ_iconst (v := 0) dX8_ifOn_9 rfl ?_
  refine mJ_iconst (v := 3) dX8_ifOn_10 rfl ?_
  refine mJ_cS3i dX8_ifOn_11 e_X8_in n_X8_32 ⟨Nat.le_of_ble_eq_true rfl, Nat.le_of_ble_eq_true rfl⟩ (Nat.le_of_ble_eq_true rfl) (C_X8_in) ?_
  refine mJ_top (b2i_t h2) ?_
  refine mJ_if_eq 26 dX8_ifOn_14 rfl (fun c => absurd c (by decide)) (fun _ => ?_)
  refine mJ_iload_n dX8_ifOn_17 rfl ?_
  refine mJ_iconst (v := 0) dX8_ifOn_18 rfl ?_
  refine mJ_iconst (v := 4) dX8_ifOn_19 rfl ?_
  refine mJ_cS3i dX8_ifOn_20 e_X8_in n_X8_32 ⟨Nat.le_of_ble_eq_true rfl, Nat.le_of_ble_eq_true rfl⟩ (Nat.le_of_ble_eq_true rfl) (C_X8_in) ?_
  refine mJ_top (b2i_t ⟨by decide, by decide⟩) ?_
  refine mJ_if_ne 30 dX8_ifOn_23 rfl (fun _ => ?_) (fun c => absurd c (by decide))
  refine mJ_aload_n dX8_ifOn_30 rfl ?_
  refine mJ_iload_n dX8_ifOn_31 rfl ?_
  refine mJ_iload_n dX8_ifOn_32 rfl ?_
  refine mJ_cV2i dX8_ifOn_33 e_X8_isIn n_X8_93 ⟨Nat.le_of_ble_eq_true rfl, Nat.le_of_ble_eq_true rfl⟩ rfl rfl (Nat.le_of_ble_eq_true rfl) (C_X8_isIn hs hh ha0 ha) ?_
  refine mJ_istore dX8_ifOn_36 (Nat.le_of_ble_eq_true rfl) (ls2 := [_, _, _, _, _]) rfl ?_
  refine mJ_iload_n dX8_ifOn_38 rfl ?_
  refine mJ_tin 89 dX8_ifOn_39 (by decide) (by decide) rfl rfl ?_
  refine mJ_aload_n dX8_ifOn_89 rfl ?_
  refine mJ_get dX8_ifOn_90 f_X8_66 rfl rfl ?_
  exact mJ_iret dX8_ifOn_93 rfl (rfl) (rfl)
set_option maxHeartbeats 4000000 in
set_option maxRecDepth 100000 in
theorem C_X8_ifOn_4 {d was text ord why son tri : aF} {sta typ at_ sig fst snd rea lef top shf arr goo shn trs : Int32}  {h a : Nat} {s : Int32} (hh : h < 12) (h1 : q_rg (nI h) 0 (d 50 - 1)) (hs : sd s) (h2 : q_rg s 0 3) (ha0 : dH d h 0 = nI a) (ha : a < 10) : mCt k_X8_ifOn [.ref 0, .int (nI h), .int s, .int 4] (mH d was sta text typ at_ sig fst snd rea lef top shf arr goo ord why son shn tri trs) (some (.int (p_ar d h s))) (mH (d) (was) (sta) text typ at_ sig fst snd rea (p_x d h s) (p_y d h s) (p_sh d h s) (p_ar d h s) (b2i (p_gd d h s)) ord why son shn tri trs) := by
  refine mCt_intro (plainFor_of_name rfl) (Nat.le_of_ble_eq_true rfl) (m_all rfl) (ls := [_, _, _, _, _]) rfl ?_
  refine mJ_aload_n dX8_ifOn_0 rfl ?_
  refine mJ_iload_n dX8_ifOn_1 rfl ?_
  refine mJ_cV1i dX8_ifOn_2 e_X8_isHint n_X8_138 ⟨Nat.le_of_ble_eq_true rfl, Nat.le_of_ble_eq_true rfl⟩ rfl rfl (Nat.le_of_ble_eq_true rfl) (C_X8_isHint) ?_
  refine mJ_top (b2i_t h1) ?_
  refine mJ_if_eq 26 dX8_ifOn_5 rfl (fun c => absurd c (by decide)) (fun _ => ?_)
  refine mJ_iload_n dX8_ifOn_8 rfl ?_
  refine mJ_iconst (v := 0) dX8_ifOn_9 rfl ?_
  refine mJ_iconst (v := 3) dX8_ifOn_10 rfl ?_
  refine mJ_cS3i dX8_ifOn_11 e_X8_in n_X8_32 ⟨Nat.le_of_ble_eq_true rfl, Nat.le_of_ble_eq_true rfl⟩ (Nat.le_of_ble_eq_true rfl) (C_X8_in) ?_
  refine mJ_top (b2i_t h2) ?_
  refine mJ_if_eq 26 dX8_ifOn_14 rfl (fun c => absurd c (by decide)) (fun _ => ?_)
  refine mJ_iload_n dX8_ifOn_17 rfl ?_
  refine mJ_iconst (v := 0) dX8_ifOn_18 rfl ?_
  refine mJ_iconst (v := 4) dX8_ifOn_19 rfl ?_
  refine mJ_cS3i dX8_ifOn_20 e_X8_in n_X8_32 ⟨Nat.le_of_ble_eq_true rfl, Nat.le_of_ble_eq_true rfl⟩ (Nat.le_of_ble_eq_true rfl) (C_X8_in) ?_
  refine mJ_top (b2i_t ⟨by decide, by decide⟩) ?_
  refine mJ_if_ne 30 dX8_ifOn_23 rfl (fun _ => ?_) (fun c => absurd c (by decide))
  refine mJ_aload_n dX8_ifOn_30 rfl ?_
  refine mJ_iload_n dX8_ifOn_31 rfl ?_
  refine mJ_iload_n dX8_ifOn_32 rfl ?_
  refine mJ_cV2i dX8_ifOn_33 e_X8_isIn n_X8_93 ⟨Nat.le_of_ble_eq_true rfl, Nat.le_of_ble_eq_true rfl⟩ rfl rfl (Nat.le_of_ble_eq_true rfl) (C_X8_isIn hs hh ha0 ha) ?_
  refine mJ_istore dX8_ifOn_36 (Nat.le_of_ble_eq_true rfl) (ls2 := [_, _, _, _, _]) rfl ?_
  refine mJ_iload_n dX8_ifOn_38 rfl ?_
  refine mJ_tout 94 dX8_ifOn_39 (by decide) rfl ?_
  refine mJ_aload_n dX8_ifOn_94 rfl ?_
  refine mJ_get dX8_ifOn_95 f_X8_59 rfl rfl ?_
  exact mJ_iret dX8_ifOn_98 rfl (rfl) (rfl)
set_option maxHeartbeats 4000000 in
set_option maxRecDepth 100000 in
theorem C_X8_undo_np {d was text ord why son tri : aF} {typ at_ sig fst snd rea lef top shf arr goo shn trs : Int32}  : mCt k_X8_undo [.ref 0] (mH d was (nI 0) text typ at_ sig fst snd rea lef top shf arr goo ord why son shn tri trs) (some (.int (-10002))) (mH (d) (was) (nI 0) text typ at_ sig fst snd rea lef top shf arr goo ord why son shn tri trs) := by
  refine mCt_intro (plainFor_of_name rfl) (Nat.le_of_ble_eq_true rfl) (m_all rfl) (ls := [_, _]) rfl ?_
  refine mJ_aload_n dX8_undo_0 rfl ?_
  refine mJ_get dX8_undo_1 f_X8_36 rfl rfl ?_
  refine mJ_if_ne 11 dX8_undo_4 rfl (fun c_4 => False.elim (by exact c_4 rfl)) (fun c_4 => ?_)
  refine mJ_sipush (v := (-10002)) dX8_undo_7 rfl ?_
  exact mJ_iret dX8_undo_10 rfl (rfl) (rfl)
set_option maxHeartbeats 4000000 in
set_option maxRecDepth 100000 in
theorem L_X8_undo {d was text ord why son tri : aF} {typ at_ sig fst snd rea lef top shf arr goo shn trs : Int32} {n b : Nat} (hb : b = 172 * n) (hn : n ≤ 4) : ∀ (m k : Nat), k + m = 172 → mJ k_X8_undo 23 [.ref 0, .int (nI k)] [] (mH (wC d was b k) was (nI n) text typ at_ sig fst snd rea lef top shf arr goo ord why son shn tri trs) (some (.int (nI n))) (mH (wC d was b 172) was (nI n) text typ at_ sig fst snd rea lef top shf arr goo ord why son shn tri trs) := by
  intro m
  induction m with
  | zero =>
    intro k hk
    refine mJ_iload_n dX8_undo_23 rfl ?_
    refine mJ_sipush (v := 172) dX8_undo_24 rfl ?_
    refine mJ_icmp_ge 57 dX8_undo_27 rfl (fun c_27 => ?_) (fun c_27 => False.elim (by exact c_27 (nI_le (a := 172) (by omega) (by omega))))
    refine mJ_aload_n dX8_undo_57 rfl ?_
    refine mJ_get dX8_undo_58 f_X8_36 rfl rfl ?_
    exact mJ_iret dX8_undo_61 rfl (rfl) (by rw [show k = 172 by omega])
  | succ m ih =>
    intro k hk
    refine mJ_iload_n dX8_undo_23 rfl ?_
    refine mJ_sipush (v := 172) dX8_undo_24 rfl ?_
    refine mJ_icmp_ge 57 dX8_undo_27 rfl (fun c_27 => False.elim (by exact nI_ge (b := 172) (show k < 172 by omega) (by omega) c_27)) (fun c_27 => ?_)
    refine mJ_aload_n dX8_undo_30 rfl ?_
    refine mJ_get dX8_undo_31 f_X8_7 rfl rfl ?_
    refine mJ_iload_n dX8_undo_34 rfl ?_
    refine mJ_aload_n dX8_undo_35 rfl ?_
    refine mJ_get dX8_undo_36 f_X8_13 rfl rfl ?_
    refine mJ_sipush (v := 172) dX8_undo_39 rfl ?_
    refine mJ_aload_n dX8_undo_42 rfl ?_
    refine mJ_get dX8_undo_43 f_X8_36 rfl rfl ?_
    refine mJ_imul dX8_undo_46 ?_
    refine mJ_iload_n dX8_undo_47 rfl ?_
    refine mJ_iadd dX8_undo_48 ?_
    refine mJ_ialdN dX8_undo_49 rfl (j := b + k) ⟨show (172 : Int32) * nI n + nI k = nI (b + k) by rw [hb, ← nI_add, ← pk_mul]; rfl, by omega, by decide⟩ ?_
    refine mJ_iastN dX8_undo_50 rfl (j := k) ⟨rfl, by omega, by omega⟩ (h2 := mH _ _ _ _ _ _ _ _ _ _ _ _ _ _ _ _ _ _ _ _ _) rfl ?_
    refine mJ_iinc dX8_undo_51 rfl (Nat.le_of_ble_eq_true rfl) (v := nI (k + 1)) (nI_1 k) (ls2 := [_, _]) rfl ?_
    refine mJ_goto 23 dX8_undo_54 rfl ?_
    rw [wC_s]
    exact ih (k + 1) (by omega)
set_option maxHeartbeats 4000000 in
set_option maxRecDepth 100000 in
theorem C_X8_undo {d was text ord why son tri : aF} {typ at_ sig fst snd rea lef top shf arr goo shn trs : Int32}  {n : Nat} (hn : n ≤ 4) : mCt k_X8_undo [.ref 0] (mH d was (nI (n + 1)) text typ at_ sig fst snd rea lef top shf arr goo ord why son shn tri trs) (some (.int (nI n))) (mH (wC d was (172 * n) 172) (was) (nI n) text typ at_ sig fst snd rea lef top shf arr goo ord why son shn tri trs) := by
  refine mCt_intro (plainFor_of_name rfl) (Nat.le_of_ble_eq_true rfl) (m_all rfl) (ls := [_, _]) rfl ?_
  refine mJ_aload_n dX8_undo_0 rfl ?_
  refine mJ_get dX8_undo_1 f_X8_36 rfl rfl ?_
  refine mJ_if_ne 11 dX8_undo_4 rfl (fun c_4 => ?_) (fun c_4 => False.elim (by exact nI_ne0 (n := n + 1) (by omega) (by omega) c_4))
  refine mJ_aload_n dX8_undo_11 rfl ?_
  refine mJ_dup dX8_undo_12 rfl ?_
  refine mJ_get dX8_undo_13 f_X8_36 rfl rfl ?_
  refine mJ_iconst (v := 1) dX8_undo_16 rfl ?_
  refine mJ_isub dX8_undo_17 ?_
  refine mJ_top (nI_pred n) ?_
  refine mJ_put dX8_undo_18 p_X8_36 rfl (Nat.le_of_ble_eq_true rfl) rfl rfl (h2 := mH _ _ _ _ _ _ _ _ _ _ _ _ _ _ _ _ _ _ _ _ _) rfl ?_
  refine mJ_iconst (v := 0) dX8_undo_21 rfl ?_
  refine mJ_istore_n dX8_undo_22 (Nat.le_of_ble_eq_true rfl) (ls2 := [_, _]) rfl ?_
  have h0 := L_X8_undo (was := was) (d := d) (text := text) (typ := typ) (at_ := at_) (sig := sig) (fst := fst) (snd := snd) (rea := rea) (lef := lef) (top := top) (shf := shf) (arr := arr) (goo := goo) (ord := ord) (why := why) (son := son) (shn := shn) (tri := tri) (trs := trs) (n := n) (b := 172 * n) rfl hn 172 0 (by omega)
  rw [wC_0] at h0
  exact h0
set_option maxHeartbeats 4000000 in
set_option maxRecDepth 100000 in
theorem C_X8_type_bad {d was text ord why son tri : aF} {sta typ at_ sig fst snd rea lef top shf arr goo shn trs : Int32} {c : Int32} (hb : ¬ (q_rg c 32 126)) : mCt k_X8_type [.ref 0, .int c] (mH d was sta text typ at_ sig fst snd rea lef top shf arr goo ord why son shn tri trs) (some (.int (-10001))) (mH d was sta text typ at_ sig fst snd rea lef top shf arr goo ord why son shn tri trs) := by
  refine mCt_intro (plainFor_of_name rfl) (Nat.le_of_ble_eq_true rfl) (m_all rfl) (ls := [_, _]) rfl ?_
  refine mJ_iload_n dX8_type_0 rfl ?_
  refine mJ_bipush (v := 32) dX8_type_1 rfl ?_
  refine mJ_bipush (v := 126) dX8_type_3 rfl ?_
  refine mJ_cS3i dX8_type_5 e_X8_in n_X8_32 ⟨Nat.le_of_ble_eq_true rfl, Nat.le_of_ble_eq_true rfl⟩ (Nat.le_of_ble_eq_true rfl) (C_X8_in) ?_
  refine mJ_b2i (fun b_5 => ?_) (fun b_5 => ?_)
  · exact False.elim (by exact hb b_5)
  · refine mJ_if_ne 15 dX8_type_8 rfl (fun c => absurd c (by decide)) (fun _ => ?_)
    refine mJ_sipush (v := (-10001)) dX8_type_11 rfl ?_
    exact mJ_iret dX8_type_14 rfl (rfl) (rfl)
set_option maxHeartbeats 4000000 in
set_option maxRecDepth 100000 in
theorem C_X8_type_lim {d was text ord why son tri : aF} {sta at_ sig fst snd rea lef top shf arr goo shn trs : Int32}  {c : Int32} (h1 : q_rg c 32 126) : mCt k_X8_type [.ref 0, .int c] (mH d was sta text (nI 60) at_ sig fst snd rea lef top shf arr goo ord why son shn tri trs) (some (.int (-10003))) (mH (d) (was) (sta) text (nI 60) at_ sig fst snd rea lef top shf arr goo ord why son shn tri trs) := by
  refine mCt_intro (plainFor_of_name rfl) (Nat.le_of_ble_eq_true rfl) (m_all rfl) (ls := [_, _]) rfl ?_
  refine mJ_iload_n dX8_type_0 rfl ?_
  refine mJ_bipush (v := 32) dX8_type_1 rfl ?_
  refine mJ_bipush (v := 126) dX8_type_3 rfl ?_
  refine mJ_cS3i dX8_type_5 e_X8_in n_X8_32 ⟨Nat.le_of_ble_eq_true rfl, Nat.le_of_ble_eq_true rfl⟩ (Nat.le_of_ble_eq_true rfl) (C_X8_in) ?_
  refine mJ_top (b2i_t h1) ?_
  refine mJ_if_ne 15 dX8_type_8 rfl (fun _ => ?_) (fun c => absurd c (by decide))
  refine mJ_aload_n dX8_type_15 rfl ?_
  refine mJ_get dX8_type_16 f_X8_131 rfl rfl ?_
  refine mJ_bipush (v := 60) dX8_type_19 rfl ?_
  refine mJ_icmp_ne 28 dX8_type_21 rfl (fun c_21 => False.elim (by exact c_21 rfl)) (fun c_21 => ?_)
  refine mJ_sipush (v := (-10003)) dX8_type_24 rfl ?_
  exact mJ_iret dX8_type_27 rfl (rfl) (rfl)
set_option maxHeartbeats 4000000 in
set_option maxRecDepth 100000 in
theorem C_X8_type {d was text ord why son tri : aF} {sta at_ sig fst snd rea lef top shf arr goo shn trs : Int32}  {c : Int32} {n : Nat} (h1 : q_rg c 32 126) (hl : n < 60) (hc : (c.toUInt32 % 65536).toInt32 = c) (hc2 : vp_nar .char c = c) : mCt k_X8_type [.ref 0, .int c] (mH d was sta text (nI n) at_ sig fst snd rea lef top shf arr goo ord why son shn tri trs) (some (.int (nI (n + 1)))) (mH (d) (was) (sta) (upd text n c) (nI (n + 1)) at_ sig fst snd rea lef top shf arr goo ord why son shn tri trs) := by
  refine mCt_intro (plainFor_of_name rfl) (Nat.le_of_ble_eq_true rfl) (m_all rfl) (ls := [_, _]) rfl ?_
  refine mJ_iload_n dX8_type_0 rfl ?_
  refine mJ_bipush (v := 32) dX8_type_1 rfl ?_
  refine mJ_bipush (v := 126) dX8_type_3 rfl ?_
  refine mJ_cS3i dX8_type_5 e_X8_in n_X8_32 ⟨Nat.le_of_ble_eq_true rfl, Nat.le_of_ble_eq_true rfl⟩ (Nat.le_of_ble_eq_true rfl) (C_X8_in) ?_
  refine mJ_top (b2i_t h1) ?_
  refine mJ_if_ne 15 dX8_type_8 rfl (fun _ => ?_) (fun c => absurd c (by decide))
  refine mJ_aload_n dX8_type_15 rfl ?_
  refine mJ_get dX8_type_16 f_X8_131 rfl rfl ?_
  refine mJ_bipush (v := 60) dX8_type_19 rfl ?_
  refine mJ_icmp_ne 28 dX8_type_21 rfl (fun c_21 => ?_) (fun c_21 => False.elim (by exact absurd ((nI_eq (b := 60) (by omega) (by omega)).mp c_21) (by omega)))
  refine mJ_aload_n dX8_type_28 rfl ?_
  refine mJ_get dX8_type_29 f_X8_16 rfl rfl ?_
  refine mJ_aload_n dX8_type_32 rfl ?_
  refine mJ_get dX8_type_33 f_X8_131 rfl rfl ?_
  refine mJ_iload_n dX8_type_36 rfl ?_
  refine mJ_i2c dX8_type_37 hc ?_
  refine mJ_castN dX8_type_38 rfl (j := n) ⟨⟨rfl, by omega, by decide⟩, hc2⟩ (h2 := mH _ _ _ _ _ _ _ _ _ _ _ _ _ _ _ _ _ _ _ _ _) rfl ?_
  refine mJ_aload_n dX8_type_39 rfl ?_
  refine mJ_dup dX8_type_40 rfl ?_
  refine mJ_get dX8_type_41 f_X8_131 rfl rfl ?_
  refine mJ_iconst (v := 1) dX8_type_44 rfl ?_
  refine mJ_iadd dX8_type_45 ?_
  refine mJ_top (nI_1 n) ?_
  refine mJ_put dX8_type_46 p_X8_131 rfl (Nat.le_of_ble_eq_true rfl) rfl rfl (h2 := mH _ _ _ _ _ _ _ _ _ _ _ _ _ _ _ _ _ _ _ _ _) rfl ?_
  refine mJ_aload_n dX8_type_49 rfl ?_
  refine mJ_get dX8_type_50 f_X8_131 rfl rfl ?_
  exact mJ_iret dX8_type_53 rfl (rfl) (rfl)
set_option maxHeartbeats 4000000 in
set_option maxRecDepth 100000 in
theorem C_X8_clearText {d was text ord why son tri : aF} {sta typ at_ sig fst snd rea lef top shf arr goo shn trs : Int32}  : mCt k_X8_clearText [.ref 0] (mH d was sta text typ at_ sig fst snd rea lef top shf arr goo ord why son shn tri trs) (some (.int typ)) (mH (d) (was) (sta) text (0) at_ sig fst snd rea lef top shf arr goo ord why son shn tri trs) := by
  refine mCt_intro (plainFor_of_name rfl) (Nat.le_of_ble_eq_true rfl) (m_all rfl) (ls := [_, _]) rfl ?_
  refine mJ_aload_n dX8_clearText_0 rfl ?_
  refine mJ_get dX8_clearText_1 f_X8_131 rfl rfl ?_
  refine mJ_istore_n dX8_clearText_4 (Nat.le_of_ble_eq_true rfl) (ls2 := [_, _]) rfl ?_
  refine mJ_aload_n dX8_clearText_5 rfl ?_
  refine mJ_iconst (v := 0) dX8_clearText_6 rfl ?_
  refine mJ_put dX8_clearText_7 p_X8_131 rfl (Nat.le_of_ble_eq_true rfl) rfl rfl (h2 := mH _ _ _ _ _ _ _ _ _ _ _ _ _ _ _ _ _ _ _ _ _) rfl ?_
  refine mJ_iload_n dX8_clearText_10 rfl ?_
  exact mJ_iret dX8_clearText_11 rfl (rfl) (rfl)
