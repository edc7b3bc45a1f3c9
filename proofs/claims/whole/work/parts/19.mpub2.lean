/-! THE REFERENCE: opening, closing, settling, questions -/
theorem nI_neg1 {k : Nat} (h : k < 2 ^ 31) : ¬ nI k = -1 := fun e => nI_pos h (by rw [e]; decide)
set_option maxHeartbeats 4000000 in
set_option maxRecDepth 100000 in
theorem C_X8_open_bad {d was text ord why son tri : aF} {sta typ at_ sig fst snd rea lef top shf arr goo shn trs : Int32} {v : Int32} (hb : ¬ (q_rg v 0 (d 50 - 1))) : mCt k_X8_open [.ref 0, .int v] (mH d was sta text typ at_ sig fst snd rea lef top shf arr goo ord why son shn tri trs) (some (.int (-10001))) (mH d was sta text typ at_ sig fst snd rea lef top shf arr goo ord why son shn tri trs) := by
  refine mCt_intro (plainFor_of_name rfl) (Nat.le_of_ble_eq_true rfl) (m_all rfl) (ls := [_, _]) rfl ?_
  refine mJ_aload_n dX8_open_0 rfl ?_
  refine mJ_iload_n dX8_open_1 rfl ?_
  refine mJ_cV1i dX8_open_2 e_X8_isHint n_X8_138 ⟨Nat.le_of_ble_eq_true rfl, Nat.le_of_ble_eq_true rfl⟩ rfl rfl (Nat.le_of_ble_eq_true rfl) (C_X8_isHint) ?_
  refine mJ_b2i (fun b_2 => ?_) (fun b_2 => ?_)
  · exact False.elim (by exact hb b_2)
  · refine mJ_if_ne 12 dX8_open_5 rfl (fun c => absurd c (by decide)) (fun _ => ?_)
    refine mJ_sipush (v := (-10001)) dX8_open_8 rfl ?_
    exact mJ_iret dX8_open_11 rfl (rfl) (rfl)
set_option maxHeartbeats 4000000 in
set_option maxRecDepth 100000 in
theorem C_X8_open_np {d was text ord why son tri : aF} {sta typ at_ sig fst snd rea lef top shf arr goo shn trs : Int32}  {h : Nat} (hh : h < 12) (h1 : q_rg (nI h) 0 (d 50 - 1)) {m : Nat} (hO : d 147 = nI m) (hm : m ≤ 12) (hp : ¬ pO d (nI h) m 0 = -1) : mCt k_X8_open [.ref 0, .int (nI h)] (mH d was sta text typ at_ sig fst snd rea lef top shf arr goo ord why son shn tri trs) (some (.int (-10002))) (mH (d) (was) (sta) text typ at_ sig fst snd rea lef top shf arr goo ord why son shn tri trs) := by
  refine mCt_intro (plainFor_of_name rfl) (Nat.le_of_ble_eq_true rfl) (m_all rfl) (ls := [_, _]) rfl ?_
  refine mJ_aload_n dX8_open_0 rfl ?_
  refine mJ_iload_n dX8_open_1 rfl ?_
  refine mJ_cV1i dX8_open_2 e_X8_isHint n_X8_138 ⟨Nat.le_of_ble_eq_true rfl, Nat.le_of_ble_eq_true rfl⟩ rfl rfl (Nat.le_of_ble_eq_true rfl) (C_X8_isHint) ?_
  refine mJ_top (b2i_t h1) ?_
  refine mJ_if_ne 12 dX8_open_5 rfl (fun _ => ?_) (fun c => absurd c (by decide))
  refine mJ_aload_n dX8_open_12 rfl ?_
  refine mJ_iload_n dX8_open_13 rfl ?_
  refine mJ_cV1i dX8_open_14 e_X8_placeOf n_X8_144 ⟨Nat.le_of_ble_eq_true rfl, Nat.le_of_ble_eq_true rfl⟩ rfl rfl (Nat.le_of_ble_eq_true rfl) (C_X8_placeOf hO hm) ?_
  refine mJ_iconst (v := (-1)) dX8_open_17 rfl ?_
  refine mJ_icmp_eq 25 dX8_open_18 rfl (fun c_18 => False.elim (by exact hp c_18)) (fun c_18 => ?_)
  refine mJ_sipush (v := (-10002)) dX8_open_21 rfl ?_
  exact mJ_iret dX8_open_24 rfl (rfl) (rfl)
set_option maxHeartbeats 4000000 in
set_option maxRecDepth 100000 in
theorem C_X8_open {d was text ord why son tri : aF} {typ at_ sig fst snd rea lef top shf arr goo shn trs : Int32} {nA nH nO : Nat} {h : Nat} {n : Nat} (hn : n ≤ 5) (hh : h < 12) (h1 : q_rg (nI h) 0 (d 50 - 1)) {m : Nat} (hO : d 147 = nI m) (hm : m ≤ 12) (hm2 : m < 12) (hp : pO d (nI h) m 0 = -1) (hw' : wD (upd (upd d (148 + m) (nI h)) 147 (nI (m + 1))) nA nH nO) (hi' : wI (upd (upd d (148 + m) (nI h)) 147 (nI (m + 1))) nO) : ∃ (lef' top' shf' arr' goo' : Int32) (ord' why' son' tri' : aF) (trs' : Int32), mCt k_X8_open [.ref 0, .int (nI h)] (mH d was (nI n) text typ at_ sig fst snd rea lef top shf arr goo ord why son shn tri trs) (some (.int ((p_all (upd (upd d (148 + m) (nI h)) 147 (nI (m + 1))) nA nH nO).1 h))) (mH (upd (upd d (148 + m) (nI h)) 147 (nI (m + 1))) (mR was d n) (nI (mN n)) text typ at_ sig fst snd rea (lef') (top') (shf') (arr') (goo') (ord') (why') (son') ((p_all (upd (upd d (148 + m) (nI h)) 147 (nI (m + 1))) nA nH nO).2.2) (tri') (trs')) := by
  obtain ⟨l1, t1, s1, a1, o1, d1, y1, n1, r1, z1, e1, e2, e3, hj⟩ := C_X8_shows (d := upd (upd d (148 + m) (nI h)) 147 (nI (m + 1))) (was := mR was d n) (sta := nI (mN n)) (shn := shn) (text := text) (typ := typ) (at_ := at_) (sig := sig) (fst := fst) (snd := snd) (rea := rea) (lef := lef) (top := top) (shf := shf) (arr := arr) (goo := goo) (ord := ord) (why := why) (son := son) (tri := tri) (trs := trs) hw' hi'
  refine ⟨l1, t1, s1, a1, o1, d1, y1, n1, r1, z1, ?_⟩
  refine mCt_intro (plainFor_of_name rfl) (Nat.le_of_ble_eq_true rfl) (m_all rfl) (ls := [_, _]) rfl ?_
  refine mJ_aload_n dX8_open_0 rfl ?_
  refine mJ_iload_n dX8_open_1 rfl ?_
  refine mJ_cV1i dX8_open_2 e_X8_isHint n_X8_138 ⟨Nat.le_of_ble_eq_true rfl, Nat.le_of_ble_eq_true rfl⟩ rfl rfl (Nat.le_of_ble_eq_true rfl) (C_X8_isHint) ?_
  refine mJ_top (b2i_t h1) ?_
  refine mJ_if_ne 12 dX8_open_5 rfl (fun _ => ?_) (fun c => absurd c (by decide))
  refine mJ_aload_n dX8_open_12 rfl ?_
  refine mJ_iload_n dX8_open_13 rfl ?_
  refine mJ_cV1i dX8_open_14 e_X8_placeOf n_X8_144 ⟨Nat.le_of_ble_eq_true rfl, Nat.le_of_ble_eq_true rfl⟩ rfl rfl (Nat.le_of_ble_eq_true rfl) (C_X8_placeOf hO hm) ?_
  refine mJ_iconst (v := (-1)) dX8_open_17 rfl ?_
  refine mJ_icmp_eq 25 dX8_open_18 rfl (fun c_18 => ?_) (fun c_18 => False.elim (by exact c_18 hp))
  refine mJ_aload_n dX8_open_25 rfl ?_
  refine mJ_cV0v dX8_open_26 e_X8_records n_X8_115 ⟨Nat.le_of_ble_eq_true rfl, Nat.le_of_ble_eq_true rfl⟩ rfl rfl (Nat.le_of_ble_eq_true rfl) (C_X8_records hn) ?_
  refine mJ_aload_n dX8_open_29 rfl ?_
  refine mJ_iload_n dX8_open_30 rfl ?_
  refine mJ_cV1v dX8_open_31 e_X8_opens n_X8_147 ⟨Nat.le_of_ble_eq_true rfl, Nat.le_of_ble_eq_true rfl⟩ rfl rfl (Nat.le_of_ble_eq_true rfl) (C_X8_opens hO hm2) ?_
  refine mJ_aload_n dX8_open_34 rfl ?_
  refine mJ_cV0v dX8_open_35 e_X8_shows n_X8_112 ⟨Nat.le_of_ble_eq_true rfl, Nat.le_of_ble_eq_true rfl⟩ rfl rfl (Nat.le_of_ble_eq_true rfl) (hj) ?_
  refine mJ_aload_n dX8_open_38 rfl ?_
  refine mJ_get dX8_open_39 f_X8_23 rfl rfl ?_
  refine mJ_iload_n dX8_open_42 rfl ?_
  refine mJ_ialdN dX8_open_43 rfl (j := h) ⟨rfl, by omega, by omega⟩ ?_
  exact mJ_iret dX8_open_44 rfl (by rw [e2 h hh]) (rfl)
set_option maxHeartbeats 4000000 in
set_option maxRecDepth 100000 in
theorem C_X8_close_bad {d was text ord why son tri : aF} {sta typ at_ sig fst snd rea lef top shf arr goo shn trs : Int32} {v : Int32} (hb : ¬ (q_rg v 0 (d 50 - 1))) : mCt k_X8_close [.ref 0, .int v] (mH d was sta text typ at_ sig fst snd rea lef top shf arr goo ord why son shn tri trs) (some (.int (-10001))) (mH d was sta text typ at_ sig fst snd rea lef top shf arr goo ord why son shn tri trs) := by
  refine mCt_intro (plainFor_of_name rfl) (Nat.le_of_ble_eq_true rfl) (m_all rfl) (ls := [_, _, _]) rfl ?_
  refine mJ_aload_n dX8_close_0 rfl ?_
  refine mJ_iload_n dX8_close_1 rfl ?_
  refine mJ_cV1i dX8_close_2 e_X8_isHint n_X8_138 ⟨Nat.le_of_ble_eq_true rfl, Nat.le_of_ble_eq_true rfl⟩ rfl rfl (Nat.le_of_ble_eq_true rfl) (C_X8_isHint) ?_
  refine mJ_b2i (fun b_2 => ?_) (fun b_2 => ?_)
  · exact False.elim (by exact hb b_2)
  · refine mJ_if_ne 12 dX8_close_5 rfl (fun c => absurd c (by decide)) (fun _ => ?_)
    refine mJ_sipush (v := (-10001)) dX8_close_8 rfl ?_
    exact mJ_iret dX8_close_11 rfl (rfl) (rfl)
set_option maxHeartbeats 4000000 in
set_option maxRecDepth 100000 in
theorem C_X8_close_np {d was text ord why son tri : aF} {sta typ at_ sig fst snd rea lef top shf arr goo shn trs : Int32}  {h : Nat} (hh : h < 12) (h1 : q_rg (nI h) 0 (d 50 - 1)) {m : Nat} (hO : d 147 = nI m) (hm : m ≤ 12) (hp : pO d (nI h) m 0 = -1) : mCt k_X8_close [.ref 0, .int (nI h)] (mH d was sta text typ at_ sig fst snd rea lef top shf arr goo ord why son shn tri trs) (some (.int (-10002))) (mH (d) (was) (sta) text typ at_ sig fst snd rea lef top shf arr goo ord why son shn tri trs) := by
  refine mCt_intro (plainFor_of_name rfl) (Nat.le_of_ble_eq_true rfl) (m_all rfl) (ls := [_, _, _]) rfl ?_
  refine mJ_aload_n dX8_close_0 rfl ?_
  refine mJ_iload_n dX8_close_1 rfl ?_
  refine mJ_cV1i dX8_close_2 e_X8_isHint n_X8_138 ⟨Nat.le_of_ble_eq_true rfl, Nat.le_of_ble_eq_true rfl⟩ rfl rfl (Nat.le_of_ble_eq_true rfl) (C_X8_isHint) ?_
  refine mJ_top (b2i_t h1) ?_
  refine mJ_if_ne 12 dX8_close_5 rfl (fun _ => ?_) (fun c => absurd c (by decide))
  refine mJ_aload_n dX8_close_12 rfl ?_
  refine mJ_iload_n dX8_close_13 rfl ?_
  refine mJ_cV1i dX8_close_14 e_X8_placeOf n_X8_144 ⟨Nat.le_of_ble_eq_true rfl, Nat.le_of_ble_eq_true rfl⟩ rfl rfl (Nat.le_of_ble_eq_true rfl) (C_X8_placeOf hO hm) ?_
  refine mJ_istore_n dX8_close_17 (Nat.le_of_ble_eq_true rfl) (ls2 := [_, _, _]) rfl ?_
  refine mJ_iload_n dX8_close_18 rfl ?_
  refine mJ_iconst (v := (-1)) dX8_close_19 rfl ?_
  refine mJ_icmp_ne 27 dX8_close_20 rfl (fun c_20 => False.elim (by exact c_20 hp)) (fun c_20 => ?_)
  refine mJ_sipush (v := (-10002)) dX8_close_23 rfl ?_
  exact mJ_iret dX8_close_26 rfl (rfl) (rfl)
set_option maxHeartbeats 4000000 in
set_option maxRecDepth 100000 in
theorem C_X8_close {d was text ord why son tri : aF} {typ at_ sig fst snd rea lef top shf arr goo shn trs : Int32} {nA nH nO : Nat} {h : Nat} {n : Nat} (hn : n ≤ 5) (hh : h < 12) (h1 : q_rg (nI h) 0 (d 50 - 1)) {m p : Nat} (hO : d 147 = nI (m + 1)) (hm : m ≤ 11) (hp2 : p ≤ m) (hp : pO d (nI h) (m + 1) 0 = nI p) (hw' : wD (upd (shO (upd d 147 (nI m)) p (m - p)) (160 + h) (-1)) nA nH nO) (hi' : wI (upd (shO (upd d 147 (nI m)) p (m - p)) (160 + h) (-1)) nO) : ∃ (lef' top' shf' arr' goo' : Int32) (ord' why' son' tri' : aF) (trs' : Int32), mCt k_X8_close [.ref 0, .int (nI h)] (mH d was (nI n) text typ at_ sig fst snd rea lef top shf arr goo ord why son shn tri trs) (some (.int (p_all (upd (shO (upd d 147 (nI m)) p (m - p)) (160 + h) (-1)) nA nH nO).2.2)) (mH (upd (shO (upd d 147 (nI m)) p (m - p)) (160 + h) (-1)) (mR was d n) (nI (mN n)) text typ at_ sig fst snd rea (lef') (top') (shf') (arr') (goo') (ord') (why') (son') ((p_all (upd (shO (upd d 147 (nI m)) p (m - p)) (160 + h) (-1)) nA nH nO).2.2) (tri') (trs')) := by
  obtain ⟨l1, t1, s1, a1, o1, d1, y1, n1, r1, z1, hj⟩ := C_X8_many (d := upd (shO (upd d 147 (nI m)) p (m - p)) (160 + h) (-1)) (was := mR was d n) (sta := nI (mN n)) (shn := shn) (text := text) (typ := typ) (at_ := at_) (sig := sig) (fst := fst) (snd := snd) (rea := rea) (lef := lef) (top := top) (shf := shf) (arr := arr) (goo := goo) (ord := ord) (why := why) (son := son) (tri := tri) (trs := trs) hw' hi'
  refine ⟨l1, t1, s1, a1, o1, d1, y1, n1, r1, z1, ?_⟩
  refine mCt_intro (plainFor_of_name rfl) (Nat.le_of_ble_eq_true rfl) (m_all rfl) (ls := [_, _, _]) rfl ?_
  refine mJ_aload_n dX8_close_0 rfl ?_
  refine mJ_iload_n dX8_close_1 rfl ?_
  refine mJ_cV1i dX8_close_2 e_X8_isHint n_X8_138 ⟨Nat.le_of_ble_eq_true rfl, Nat.le_of_ble_eq_true rfl⟩ rfl rfl (Nat.le_of_ble_eq_true rfl) (C_X8_isHint) ?_
  refine mJ_top (b2i_t h1) ?_
  refine mJ_if_ne 12 dX8_close_5 rfl (fun _ => ?_) (fun c => absurd c (by decide))
  refine mJ_aload_n dX8_close_12 rfl ?_
  refine mJ_iload_n dX8_close_13 rfl ?_
  refine mJ_cV1i dX8_close_14 e_X8_placeOf n_X8_144 ⟨Nat.le_of_ble_eq_true rfl, Nat.le_of_ble_eq_true rfl⟩ rfl rfl (Nat.le_of_ble_eq_true rfl) (C_X8_placeOf hO (by omega)) ?_
  refine mJ_istore_n dX8_close_17 (Nat.le_of_ble_eq_true rfl) (ls2 := [_, _, _]) rfl ?_
  refine mJ_iload_n dX8_close_18 rfl ?_
  refine mJ_iconst (v := (-1)) dX8_close_19 rfl ?_
  refine mJ_icmp_ne 27 dX8_close_20 rfl (fun c_20 => ?_) (fun c_20 => False.elim (by rw [hp] at c_20; exact nI_neg1 (by omega) c_20))
  refine mJ_aload_n dX8_close_27 rfl ?_
  refine mJ_cV0v dX8_close_28 e_X8_records n_X8_115 ⟨Nat.le_of_ble_eq_true rfl, Nat.le_of_ble_eq_true rfl⟩ rfl rfl (Nat.le_of_ble_eq_true rfl) (C_X8_records hn) ?_
  refine mJ_aload_n dX8_close_31 rfl ?_
  refine mJ_iload_n dX8_close_32 rfl ?_
  refine mJ_cV1v dX8_close_33 e_X8_closes n_X8_150 ⟨Nat.le_of_ble_eq_true rfl, Nat.le_of_ble_eq_true rfl⟩ rfl rfl (Nat.le_of_ble_eq_true rfl) (C_X8_closes hO hm hh hp2 hp) ?_
  refine mJ_aload_n dX8_close_36 rfl ?_
  refine mJ_cV0i dX8_close_37 e_X8_many n_X8_118 ⟨Nat.le_of_ble_eq_true rfl, Nat.le_of_ble_eq_true rfl⟩ rfl rfl (Nat.le_of_ble_eq_true rfl) (hj) ?_
  exact mJ_iret dX8_close_40 rfl (rfl) (rfl)
/-- the remembered sides of the first k hints taken from son -/
noncomputable def rmb (d son : aF) : Nat → aF
  | 0 => d
  | k + 1 => iif (son k = -1) (rmb d son k) (upd (rmb d son k) (160 + k) (son k))
theorem rmb_ne {d son : aF} : ∀ {k j : Nat}, (j < 160 ∨ 160 + k ≤ j) → rmb d son k j = d j
  | 0, _, _ => rfl
  | k + 1, j, h => by
    unfold rmb
    by_cases q : son k = -1
    · rw [iif_t q]; exact rmb_ne (by omega)
    · rw [iif_f q, upd_ne (by omega)]; exact rmb_ne (by omega)
theorem rmb_at {d son : aF} : ∀ {k j : Nat}, j < k → rmb d son k (160 + j) = iif (son j = -1) (d (160 + j)) (son j)
  | k + 1, j, h => by
    unfold rmb
    by_cases e : j = k
    · subst e
      by_cases q : son j = -1
      · rw [iif_t q, iif_t q]; exact rmb_ne (by omega)
      · rw [iif_f q, iif_f q]; exact upd_at _ _ _
    · by_cases q : son k = -1
      · rw [iif_t q]; exact rmb_at (by omega)
      · rw [iif_f q, upd_ne (by omega)]; exact rmb_at (by omega)
theorem rmb_congr {d son son' : aF} : ∀ {k : Nat}, (∀ j, j < k → son j = son' j) → rmb d son k = rmb d son' k
  | 0, _ => rfl
  | k + 1, h => by
    unfold rmb
    rw [rmb_congr (fun j hj => h j (by omega)), h k (by omega)]
set_option maxHeartbeats 4000000 in
set_option maxRecDepth 100000 in
theorem L_X8_settles {d was text ord why son tri : aF} {sta typ at_ sig fst snd rea lef top shf arr goo shn trs : Int32} {nH : Nat} (hH : d 50 = nI nH) (hl : nH ≤ 12) : ∀ (m k : Nat), k + m = nH → mJ k_X8_settles 8 [.ref 0, .int (cP (fun j => ¬ son j = -1 ∧ ¬ d (160 + j) = son j) k), .int (nI k)] [] (mH (rmb d son k) was sta text typ at_ sig fst snd rea lef top shf arr goo ord why son shn tri trs) (some (.int (cP (fun j => ¬ son j = -1 ∧ ¬ d (160 + j) = son j) nH))) (mH (rmb d son nH) was sta text typ at_ sig fst snd rea lef top shf arr goo ord why son shn tri trs) := by
  intro m
  induction m with
  | zero =>
    intro k hk
    have h50 : rmb d son k 50 = nI nH := (rmb_ne (by omega)).trans hH
    refine mJ_iload_n dX8_settles_8 rfl ?_
    refine mJ_aload_n dX8_settles_9 rfl ?_
    refine mJ_get dX8_settles_10 f_X8_7 rfl rfl ?_
    refine mJ_bipush (v := 50) dX8_settles_13 rfl ?_
    refine mJ_ialdN dX8_settles_15 rfl (j := 50) ⟨rfl, by decide, by decide⟩ ?_
    refine mJ_top h50 ?_
    refine mJ_icmp_ge 78 dX8_settles_16 rfl (fun c_16 => ?_) (fun c_16 => False.elim (by exact c_16 (by rw [show k = nH by omega]; exact Int32.le_refl _)))
    refine mJ_iload_n dX8_settles_78 rfl ?_
    exact mJ_iret dX8_settles_79 rfl (by rw [show k = nH by omega]) (by rw [show k = nH by omega])
  | succ m ih =>
    intro k hk
    have h50 : rmb d son k 50 = nI nH := (rmb_ne (by omega)).trans hH
    have h16 : rmb d son k (160 + k) = d (160 + k) := rmb_ne (by omega)
    refine mJ_iload_n dX8_settles_8 rfl ?_
    refine mJ_aload_n dX8_settles_9 rfl ?_
    refine mJ_get dX8_settles_10 f_X8_7 rfl rfl ?_
    refine mJ_bipush (v := 50) dX8_settles_13 rfl ?_
    refine mJ_ialdN dX8_settles_15 rfl (j := 50) ⟨rfl, by decide, by decide⟩ ?_
    refine mJ_top h50 ?_
    refine mJ_icmp_ge 78 dX8_settles_16 rfl (fun c_16 => False.elim (by exact nI_ge (show k < nH by omega) (by omega) c_16)) (fun c_16 => ?_)
    refine mJ_aload_n dX8_settles_19 rfl ?_
    refine mJ_get dX8_settles_20 f_X8_26 rfl rfl ?_
    refine mJ_iload_n dX8_settles_23 rfl ?_
    refine mJ_ialdN dX8_settles_24 rfl (j := k) ⟨rfl, by omega, by omega⟩ ?_
    refine mJ_iconst (v := (-1)) dX8_settles_25 rfl ?_
    refine mJ_icmp_eq 72 dX8_settles_26 rfl (fun c_26 => ?_) (fun c_26 => ?_)
    · refine mJ_iinc dX8_settles_72 rfl (Nat.le_of_ble_eq_true rfl) (v := nI (k + 1)) (nI_1 k) (ls2 := [_, _, _]) rfl ?_
      refine mJ_goto 8 dX8_settles_75 rfl ?_
      rw [show rmb d son k = rmb d son (k + 1) from (iif_t c_26).symm, show cP (fun j => ¬ son j = -1 ∧ ¬ d (160 + j) = son j) k = cP (fun j => ¬ son j = -1 ∧ ¬ d (160 + j) = son j) (k + 1) from (iif_f (fun z => z.1 c_26)).symm]
      exact ih (k + 1) (by omega)
    · refine mJ_iload_n dX8_settles_29 rfl ?_
      refine mJ_aload_n dX8_settles_30 rfl ?_
      refine mJ_get dX8_settles_31 f_X8_7 rfl rfl ?_
      refine mJ_sipush (v := 160) dX8_settles_34 rfl ?_
      refine mJ_iload_n dX8_settles_37 rfl ?_
      refine mJ_iadd dX8_settles_38 ?_
      refine mJ_ialdN dX8_settles_39 rfl (j := 160 + k) ⟨by simp only [← nI_add]; rfl, by omega, by decide⟩ ?_
      refine mJ_top h16 ?_
      refine mJ_aload_n dX8_settles_40 rfl ?_
      refine mJ_get dX8_settles_41 f_X8_26 rfl rfl ?_
      refine mJ_iload_n dX8_settles_44 rfl ?_
      refine mJ_ialdN dX8_settles_45 rfl (j := k) ⟨rfl, by omega, by omega⟩ ?_
      refine mJ_icmp_ne 53 dX8_settles_46 rfl (fun c_46 => ?_) (fun c_46 => ?_)
      · refine mJ_iconst (v := 1) dX8_settles_53 rfl ?_
        refine mJ_iadd dX8_settles_54 ?_
        refine mJ_istore_n dX8_settles_55 (Nat.le_of_ble_eq_true rfl) (ls2 := [_, _, _]) rfl ?_
        refine mJ_aload_n dX8_settles_56 rfl ?_
        refine mJ_get dX8_settles_57 f_X8_7 rfl rfl ?_
        refine mJ_sipush (v := 160) dX8_settles_60 rfl ?_
        refine mJ_iload_n dX8_settles_63 rfl ?_
        refine mJ_iadd dX8_settles_64 ?_
        refine mJ_aload_n dX8_settles_65 rfl ?_
        refine mJ_get dX8_settles_66 f_X8_26 rfl rfl ?_
        refine mJ_iload_n dX8_settles_69 rfl ?_
        refine mJ_ialdN dX8_settles_70 rfl (j := k) ⟨rfl, by omega, by omega⟩ ?_
        refine mJ_iastN dX8_settles_71 rfl (j := 160 + k) ⟨by simp only [← nI_add]; rfl, by omega, by decide⟩ (h2 := mH _ _ _ _ _ _ _ _ _ _ _ _ _ _ _ _ _ _ _ _ _) rfl ?_
        refine mJ_iinc dX8_settles_72 rfl (Nat.le_of_ble_eq_true rfl) (v := nI (k + 1)) (nI_1 k) (ls2 := [_, _, _]) rfl ?_
        refine mJ_goto 8 dX8_settles_75 rfl ?_
        rw [show upd (rmb d son k) (160 + k) (son k) = rmb d son (k + 1) from (iif_f c_26).symm, show cP (fun j => ¬ son j = -1 ∧ ¬ d (160 + j) = son j) k + 1 = cP (fun j => ¬ son j = -1 ∧ ¬ d (160 + j) = son j) (k + 1) from (iif_t ⟨c_26, c_46⟩).symm]
        exact ih (k + 1) (by omega)
      · refine mJ_iconst (v := 0) dX8_settles_49 rfl ?_
        refine mJ_goto 54 dX8_settles_50 rfl ?_
        refine mJ_iadd dX8_settles_54 ?_
        refine mJ_top (Int32.add_zero _) ?_
        refine mJ_istore_n dX8_settles_55 (Nat.le_of_ble_eq_true rfl) (ls2 := [_, _, _]) rfl ?_
        refine mJ_aload_n dX8_settles_56 rfl ?_
        refine mJ_get dX8_settles_57 f_X8_7 rfl rfl ?_
        refine mJ_sipush (v := 160) dX8_settles_60 rfl ?_
        refine mJ_iload_n dX8_settles_63 rfl ?_
        refine mJ_iadd dX8_settles_64 ?_
        refine mJ_aload_n dX8_settles_65 rfl ?_
        refine mJ_get dX8_settles_66 f_X8_26 rfl rfl ?_
        refine mJ_iload_n dX8_settles_69 rfl ?_
        refine mJ_ialdN dX8_settles_70 rfl (j := k) ⟨rfl, by omega, by omega⟩ ?_
        refine mJ_iastN dX8_settles_71 rfl (j := 160 + k) ⟨by simp only [← nI_add]; rfl, by omega, by decide⟩ (h2 := mH _ _ _ _ _ _ _ _ _ _ _ _ _ _ _ _ _ _ _ _ _) rfl ?_
        refine mJ_iinc dX8_settles_72 rfl (Nat.le_of_ble_eq_true rfl) (v := nI (k + 1)) (nI_1 k) (ls2 := [_, _, _]) rfl ?_
        refine mJ_goto 8 dX8_settles_75 rfl ?_
        rw [show upd (rmb d son k) (160 + k) (son k) = rmb d son (k + 1) from (iif_f c_26).symm, show cP (fun j => ¬ son j = -1 ∧ ¬ d (160 + j) = son j) k = cP (fun j => ¬ son j = -1 ∧ ¬ d (160 + j) = son j) (k + 1) from (iif_f (fun z => z.2 c_46)).symm]
        exact ih (k + 1) (by omega)
set_option maxHeartbeats 4000000 in
set_option maxRecDepth 100000 in
theorem C_X8_settles {d was text ord why son tri : aF} {sta typ at_ sig fst snd rea lef top shf arr goo shn trs : Int32} {nA nH nO : Nat} (hw : wD d nA nH nO) (hi : wI d nO) : ∃ (lef' top' shf' arr' goo' : Int32) (ord' why' son' tri' : aF) (trs' : Int32), mCt k_X8_settles [.ref 0] (mH d was sta text typ at_ sig fst snd rea lef top shf arr goo ord why son shn tri trs) (some (.int (cP (fun j => ¬ (p_all d nA nH nO).2.1 j = -1 ∧ ¬ d (160 + j) = (p_all d nA nH nO).2.1 j) nH))) (mH (rmb d (p_all d nA nH nO).2.1 nH) was sta text typ at_ sig fst snd rea (lef') (top') (shf') (arr') (goo') (ord') (why') (son') ((p_all (d) nA nH nO).2.2) (tri') (trs')) := by
  obtain ⟨l1, t1, s1, a1, o1, d1, y1, n1, r1, z1, e1, e2, e3, hj⟩ := C_X8_shows (d := d) (was := was) (sta := sta) (shn := shn) (text := text) (typ := typ) (at_ := at_) (sig := sig) (fst := fst) (snd := snd) (rea := rea) (lef := lef) (top := top) (shf := shf) (arr := arr) (goo := goo) (ord := ord) (why := why) (son := son) (tri := tri) (trs := trs) hw hi
  have w2 : nH ≤ 12 := hw.2.1
  have w5 := hw.2.2.2.2.1
  have hset := L_X8_settles (was := was) (sta := sta) (text := text) (typ := typ) (at_ := at_) (sig := sig) (fst := fst) (snd := snd) (rea := rea) (lef := l1) (top := t1) (shf := s1) (arr := a1) (goo := o1) (ord := d1) (why := y1) (son := n1) (shn := (p_all d nA nH nO).2.2) (tri := r1) (trs := z1) w5 w2 nH 0 (by omega)
  have hr : rmb d n1 nH = rmb d (p_all d nA nH nO).2.1 nH := rmb_congr (fun j hj => e3 j (by omega))
  have hc : cP (fun j => ¬ n1 j = -1 ∧ ¬ d (160 + j) = n1 j) nH = cP (fun j => ¬ (p_all d nA nH nO).2.1 j = -1 ∧ ¬ d (160 + j) = (p_all d nA nH nO).2.1 j) nH := cP_congr (fun j hj => by rw [e3 j (by omega)])
  rw [hr, hc] at hset
  refine ⟨l1, t1, s1, a1, o1, d1, y1, n1, r1, z1, ?_⟩
  refine mCt_intro (plainFor_of_name rfl) (Nat.le_of_ble_eq_true rfl) (m_all rfl) (ls := [_, _, _]) rfl ?_
  refine mJ_aload_n dX8_settles_0 rfl ?_
  refine mJ_cV0v dX8_settles_1 e_X8_shows n_X8_112 ⟨Nat.le_of_ble_eq_true rfl, Nat.le_of_ble_eq_true rfl⟩ rfl rfl (Nat.le_of_ble_eq_true rfl) (hj) ?_
  refine mJ_iconst (v := 0) dX8_settles_4 rfl ?_
  refine mJ_istore_n dX8_settles_5 (Nat.le_of_ble_eq_true rfl) (ls2 := [_, _, _]) rfl ?_
  refine mJ_iconst (v := 0) dX8_settles_6 rfl ?_
  refine mJ_istore_n dX8_settles_7 (Nat.le_of_ble_eq_true rfl) (ls2 := [_, _, _]) rfl ?_
  exact hset
set_option maxHeartbeats 4000000 in
set_option maxRecDepth 100000 in
theorem C_X8_settle {d was text ord why son tri : aF} {typ at_ sig fst snd rea lef top shf arr goo shn trs : Int32} {nA nH nO : Nat} {n : Nat} (hn : n ≤ 5) (hw : wD d nA nH nO) (hi : wI d nO) : ∃ (lef' top' shf' arr' goo' : Int32) (ord' why' son' tri' : aF) (trs' : Int32), mCt k_X8_settle [.ref 0] (mH d was (nI n) text typ at_ sig fst snd rea lef top shf arr goo ord why son shn tri trs) (some (.int (cP (fun j => ¬ (p_all d nA nH nO).2.1 j = -1 ∧ ¬ d (160 + j) = (p_all d nA nH nO).2.1 j) nH))) (mH (rmb d (p_all d nA nH nO).2.1 nH) (mR was d n) (nI (mN n)) text typ at_ sig fst snd rea (lef') (top') (shf') (arr') (goo') (ord') (why') (son') ((p_all (d) nA nH nO).2.2) (tri') (trs')) := by
  obtain ⟨l1, t1, s1, a1, o1, d1, y1, n1, r1, z1, hj⟩ := C_X8_settles (was := mR was d n) (sta := nI (mN n)) (d := d) (text := text) (typ := typ) (at_ := at_) (sig := sig) (fst := fst) (snd := snd) (rea := rea) (lef := lef) (top := top) (shf := shf) (arr := arr) (goo := goo) (ord := ord) (why := why) (son := son) (shn := shn) (tri := tri) (trs := trs) hw hi
  refine ⟨l1, t1, s1, a1, o1, d1, y1, n1, r1, z1, ?_⟩
  refine mCt_intro (plainFor_of_name rfl) (Nat.le_of_ble_eq_true rfl) (m_all rfl) (ls := [_]) rfl ?_
  refine mJ_aload_n dX8_settle_0 rfl ?_
  refine mJ_cV0v dX8_settle_1 e_X8_records n_X8_115 ⟨Nat.le_of_ble_eq_true rfl, Nat.le_of_ble_eq_true rfl⟩ rfl rfl (Nat.le_of_ble_eq_true rfl) (C_X8_records hn) ?_
  refine mJ_aload_n dX8_settle_4 rfl ?_
  refine mJ_cV0i dX8_settle_5 e_X8_settles n_X8_153 ⟨Nat.le_of_ble_eq_true rfl, Nat.le_of_ble_eq_true rfl⟩ rfl rfl (Nat.le_of_ble_eq_true rfl) (hj) ?_
  exact mJ_iret dX8_settle_8 rfl (rfl) (rfl)
set_option maxHeartbeats 4000000 in
set_option maxRecDepth 100000 in
theorem C_X8_room_bad {d was text ord why son tri : aF} {sta typ at_ sig fst snd rea lef top shf arr goo shn trs : Int32} {h s : Int32} (hb : ¬ (q_rg h 0 (d 50 - 1) ∧ q_rg s 0 3)) : mCt k_X8_room [.ref 0, .int h, .int s] (mH d was sta text typ at_ sig fst snd rea lef top shf arr goo ord why son shn tri trs) (some (.int (-10001))) (mH d was sta text typ at_ sig fst snd rea lef top shf arr goo ord why son shn tri trs) := by
  refine mCt_intro (plainFor_of_name rfl) (Nat.le_of_ble_eq_true rfl) (m_all rfl) (ls := [_, _, _, _]) rfl ?_
  refine mJ_aload_n dX8_room_0 rfl ?_
  refine mJ_iload_n dX8_room_1 rfl ?_
  refine mJ_cV1i dX8_room_2 e_X8_isHint n_X8_138 ⟨Nat.le_of_ble_eq_true rfl, Nat.le_of_ble_eq_true rfl⟩ rfl rfl (Nat.le_of_ble_eq_true rfl) (C_X8_isHint) ?_
  refine mJ_b2i (fun b_2 => ?_) (fun b_2 => ?_)
  · refine mJ_if_eq 17 dX8_room_5 rfl (fun c => absurd c (by decide)) (fun _ => ?_)
    refine mJ_iload_n dX8_room_8 rfl ?_
    refine mJ_iconst (v := 0) dX8_room_9 rfl ?_
    refine mJ_iconst (v := 3) dX8_room_10 rfl ?_
    refine mJ_cS3i dX8_room_11 e_X8_in n_X8_32 ⟨Nat.le_of_ble_eq_true rfl, Nat.le_of_ble_eq_true rfl⟩ (Nat.le_of_ble_eq_true rfl) (C_X8_in) ?_
    refine mJ_b2i (fun b_11 => ?_) (fun b_11 => ?_)
    · exact False.elim (by exact hb ⟨b_2, b_11⟩)
    · refine mJ_if_ne 21 dX8_room_14 rfl (fun c => absurd c (by decide)) (fun _ => ?_)
      refine mJ_sipush (v := (-10001)) dX8_room_17 rfl ?_
      exact mJ_iret dX8_room_20 rfl (rfl) (rfl)
  · refine mJ_if_eq 17 dX8_room_5 rfl (fun _ => ?_) (fun c => absurd c (by decide))
    refine mJ_sipush (v := (-10001)) dX8_room_17 rfl ?_
    exact mJ_iret dX8_room_20 rfl (rfl) (rfl)
def m_room (d : aF) (a s : Nat) : Int32 := if s = 0 then dA d a 1 - d 4 - d 1 else if s = 1 then d 0 + d 2 - dA d a 0 - dA d a 2 - d 4 else if s = 2 then d 1 + d 3 - dA d a 1 - dA d a 3 - d 4 else dA d a 0 - d 4 - d 0
set_option maxHeartbeats 4000000 in
set_option maxRecDepth 100000 in
theorem C_X8_room_0 {d was text ord why son tri : aF} {sta typ at_ sig fst snd rea lef top shf arr goo shn trs : Int32}  {h a : Nat} (hh : h < 12) (h1 : q_rg (nI h) 0 (d 50 - 1)) (ha0 : dH d h 0 = nI a) (ha : a < 10) : mCt k_X8_room [.ref 0, .int (nI h), .int 0] (mH d was sta text typ at_ sig fst snd rea lef top shf arr goo ord why son shn tri trs) (some (.int (m_room d a 0))) (mH (d) (was) (sta) text typ at_ sig fst snd rea lef top shf arr goo ord why son shn tri trs) := by
  refine mCt_intro (plainFor_of_name rfl) (Nat.le_of_ble_eq_true rfl) (m_all rfl) (ls := [_, _, _, _]) rfl ?_
  refine mJ_aload_n dX8_room_0 rfl ?_
  refine mJ_iload_n dX8_room_1 rfl ?_
  refine mJ_cV1i dX8_room_2 e_X8_isHint n_X8_138 ⟨Nat.le_of_ble_eq_true rfl, Nat.le_of_ble_eq_true rfl⟩ rfl rfl (Nat.le_of_ble_eq_true rfl) (C_X8_isHint) ?_
  refine mJ_top (b2i_t h1) ?_
  refine mJ_if_eq 17 dX8_room_5 rfl (fun c => absurd c (by decide)) (fun _ => ?_)
  refine mJ_iload_n dX8_room_8 rfl ?_
  refine mJ_iconst (v := 0) dX8_room_9 rfl ?_
  refine mJ_iconst (v := 3) dX8_room_10 rfl ?_
  refine mJ_cS3i dX8_room_11 e_X8_in n_X8_32 ⟨Nat.le_of_ble_eq_true rfl, Nat.le_of_ble_eq_true rfl⟩ (Nat.le_of_ble_eq_true rfl) (C_X8_in) ?_
  refine mJ_top (b2i_t ⟨by decide, by decide⟩) ?_
  refine mJ_if_ne 21 dX8_room_14 rfl (fun _ => ?_) (fun c => absurd c (by decide))
  refine mJ_aload_n dX8_room_21 rfl ?_
  refine mJ_iload_n dX8_room_22 rfl ?_
  refine mJ_iconst (v := 0) dX8_room_23 rfl ?_
  refine mJ_cV2i dX8_room_24 e_X8_ofHint n_X8_52 ⟨Nat.le_of_ble_eq_true rfl, Nat.le_of_ble_eq_true rfl⟩ rfl rfl (Nat.le_of_ble_eq_true rfl) (C_X8_ofHint (w := 0) hh (by decide)) ?_
  refine mJ_top ha0 ?_
  refine mJ_istore_n dX8_room_27 (Nat.le_of_ble_eq_true rfl) (ls2 := [_, _, _, _]) rfl ?_
  refine mJ_iload_n dX8_room_28 rfl ?_
  refine mJ_tin 56 dX8_room_29 (by decide) (by decide) rfl rfl ?_
  refine mJ_aload_n dX8_room_56 rfl ?_
  refine mJ_iload_n dX8_room_57 rfl ?_
  refine mJ_iconst (v := 1) dX8_room_58 rfl ?_
  refine mJ_cV2i dX8_room_59 e_X8_ofAnchor n_X8_40 ⟨Nat.le_of_ble_eq_true rfl, Nat.le_of_ble_eq_true rfl⟩ rfl rfl (Nat.le_of_ble_eq_true rfl) (C_X8_ofAnchor (w := 1) ha (by decide)) ?_
  refine mJ_aload_n dX8_room_62 rfl ?_
  refine mJ_get dX8_room_63 f_X8_7 rfl rfl ?_
  refine mJ_iconst (v := 4) dX8_room_66 rfl ?_
  refine mJ_ialdN dX8_room_67 rfl (j := 4) ⟨rfl, by decide, by decide⟩ ?_
  refine mJ_isub dX8_room_68 ?_
  refine mJ_aload_n dX8_room_69 rfl ?_
  refine mJ_get dX8_room_70 f_X8_7 rfl rfl ?_
  refine mJ_iconst (v := 1) dX8_room_73 rfl ?_
  refine mJ_ialdN dX8_room_74 rfl (j := 1) ⟨rfl, by decide, by decide⟩ ?_
  refine mJ_isub dX8_room_75 ?_
  exact mJ_iret dX8_room_76 rfl (rfl) (rfl)
set_option maxHeartbeats 4000000 in
set_option maxRecDepth 100000 in
theorem C_X8_room_1 {d was text ord why son tri : aF} {sta typ at_ sig fst snd rea lef top shf arr goo shn trs : Int32}  {h a : Nat} (hh : h < 12) (h1 : q_rg (nI h) 0 (d 50 - 1)) (ha0 : dH d h 0 = nI a) (ha : a < 10) : mCt k_X8_room [.ref 0, .int (nI h), .int 1] (mH d was sta text typ at_ sig fst snd rea lef top shf arr goo ord why son shn tri trs) (some (.int (m_room d a 1))) (mH (d) (was) (sta) text typ at_ sig fst snd rea lef top shf arr goo ord why son shn tri trs) := by
  refine mCt_intro (plainFor_of_name rfl) (Nat.le_of_ble_eq_true rfl) (m_all rfl) (ls := [_, _, _, _]) rfl ?_
  refine mJ_aload_n dX8_room_0 rfl ?_
  refine mJ_iload_n dX8_room_1 rfl ?_
  refine mJ_cV1i dX8_room_2 e_X8_isHint n_X8_138 ⟨Nat.le_of_ble_eq_true rfl, Nat.le_of_ble_eq_true rfl⟩ rfl rfl (Nat.le_of_ble_eq_true rfl) (C_X8_isHint) ?_
  refine mJ_top (b2i_t h1) ?_
  refine mJ_if_eq 17 dX8_room_5 rfl (fun c => absurd c (by decide)) (fun _ => ?_)
  refine mJ_iload_n dX8_room_8 rfl ?_
  refine mJ_iconst (v := 0) dX8_room_9 rfl ?_
  refine mJ_iconst (v := 3) dX8_room_10 rfl ?_
  refine mJ_cS3i dX8_room_11 e_X8_in n_X8_32 ⟨Nat.le_of_ble_eq_true rfl, Nat.le_of_ble_eq_true rfl⟩ (Nat.le_of_ble_eq_true rfl) (C_X8_in) ?_
  refine mJ_top (b2i_t ⟨by decide, by decide⟩) ?_
  refine mJ_if_ne 21 dX8_room_14 rfl (fun _ => ?_) (fun c => absurd c (by decide))
  refine mJ_aload_n dX8_room_21 rfl ?_
  refine mJ_iload_n dX8_room_22 rfl ?_
  refine mJ_iconst (v := 0) dX8_room_23 rfl ?_
  refine mJ_cV2i dX8_room_24 e_X8_ofHint n_X8_52 ⟨Nat.le_of_ble_eq_true rfl, Nat.le_of_ble_eq_true rfl⟩ rfl rfl (Nat.le_of_ble_eq_true rfl) (C_X8_ofHint (w := 0) hh (by decide)) ?_
  refine mJ_top ha0 ?_
  refine mJ_istore_n dX8_room_27 (Nat.le_of_ble_eq_true rfl) (ls2 := [_, _, _, _]) rfl ?_
  refine mJ_iload_n dX8_room_28 rfl ?_
  refine mJ_tin 77 dX8_room_29 (by decide) (by decide) rfl rfl ?_
  refine mJ_aload_n dX8_room_77 rfl ?_
  refine mJ_get dX8_room_78 f_X8_7 rfl rfl ?_
  refine mJ_iconst (v := 0) dX8_room_81 rfl ?_
  refine mJ_ialdN dX8_room_82 rfl (j := 0) ⟨rfl, by decide, by decide⟩ ?_
  refine mJ_aload_n dX8_room_83 rfl ?_
  refine mJ_get dX8_room_84 f_X8_7 rfl rfl ?_
  refine mJ_iconst (v := 2) dX8_room_87 rfl ?_
  refine mJ_ialdN dX8_room_88 rfl (j := 2) ⟨rfl, by decide, by decide⟩ ?_
  refine mJ_iadd dX8_room_89 ?_
  refine mJ_aload_n dX8_room_90 rfl ?_
  refine mJ_iload_n dX8_room_91 rfl ?_
  refine mJ_iconst (v := 0) dX8_room_92 rfl ?_
  refine mJ_cV2i dX8_room_93 e_X8_ofAnchor n_X8_40 ⟨Nat.le_of_ble_eq_true rfl, Nat.le_of_ble_eq_true rfl⟩ rfl rfl (Nat.le_of_ble_eq_true rfl) (C_X8_ofAnchor (w := 0) ha (by decide)) ?_
  refine mJ_isub dX8_room_96 ?_
  refine mJ_aload_n dX8_room_97 rfl ?_
  refine mJ_iload_n dX8_room_98 rfl ?_
  refine mJ_iconst (v := 2) dX8_room_99 rfl ?_
  refine mJ_cV2i dX8_room_100 e_X8_ofAnchor n_X8_40 ⟨Nat.le_of_ble_eq_true rfl, Nat.le_of_ble_eq_true rfl⟩ rfl rfl (Nat.le_of_ble_eq_true rfl) (C_X8_ofAnchor (w := 2) ha (by decide)) ?_
  refine mJ_isub dX8_room_103 ?_
  refine mJ_aload_n dX8_room_104 rfl ?_
  refine mJ_get dX8_room_105 f_X8_7 rfl rfl ?_
  refine mJ_iconst (v := 4) dX8_room_108 rfl ?_
  refine mJ_ialdN dX8_room_109 rfl (j := 4) ⟨rfl, by decide, by decide⟩ ?_
  refine mJ_isub dX8_room_110 ?_
  exact mJ_iret dX8_room_111 rfl (rfl) (rfl)
set_option maxHeartbeats 4000000 in
set_option maxRecDepth 100000 in
theorem C_X8_room_2 {d was text ord why son tri : aF} {sta typ at_ sig fst snd rea lef top shf arr goo shn trs : Int32}  {h a : Nat} (hh : h < 12) (h1 : q_rg (nI h) 0 (d 50 - 1)) (ha0 : dH d h 0 = nI a) (ha : a < 10) : mCt k_X8_room [.ref 0, .int (nI h), .int 2] (mH d was sta text typ at_ sig fst snd rea lef top shf arr goo ord why son shn tri trs) (some (.int (m_room d a 2))) (mH (d) (was) (sta) text typ at_ sig fst snd rea lef top shf arr goo ord why son shn tri trs) := by
  refine mCt_intro (plainFor_of_name rfl) (Nat.le_of_ble_eq_true rfl) (m_all rfl) (ls := [_, _, _, _]) rfl ?_
  refine mJ_aload_n dX8_room_0 rfl ?_
  refine mJ_iload_n dX8_room_1 rfl ?_
  refine mJ_cV1i dX8_room_2 e_X8_isHint n_X8_138 ⟨Nat.le_of_ble_eq_true rfl, Nat.le_of_ble_eq_true rfl⟩ rfl rfl (Nat.le_of_ble_eq_true rfl) (C_X8_isHint) ?_
  refine mJ_top (b2i_t h1) ?_
  refine mJ_if_eq 17 dX8_room_5 rfl (fun c => absurd c (by decide)) (fun _ => ?_)
  refine mJ_iload_n dX8_room_8 rfl ?_
  refine mJ_iconst (v := 0) dX8_room_9 rfl ?_
  refine mJ_iconst (v := 3) dX8_room_10 rfl ?_
  refine mJ_cS3i dX8_room_11 e_X8_in n_X8_32 ⟨Nat.le_of_ble_eq_true rfl, Nat.le_of_ble_eq_true rfl⟩ (Nat.le_of_ble_eq_true rfl) (C_X8_in) ?_
  refine mJ_top (b2i_t ⟨by decide, by decide⟩) ?_
  refine mJ_if_ne 21 dX8_room_14 rfl (fun _ => ?_) (fun c => absurd c (by decide))
  refine mJ_aload_n dX8_room_21 rfl ?_
  refine mJ_iload_n dX8_room_22 rfl ?_
  refine mJ_iconst (v := 0) dX8_room_23 rfl ?_
  refine mJ_cV2i dX8_room_24 e_X8_ofHint n_X8_52 ⟨Nat.le_of_ble_eq_true rfl, Nat.le_of_ble_eq_true rfl⟩ rfl rfl (Nat.le_of_ble_eq_true rfl) (C_X8_ofHint (w := 0) hh (by decide)) ?_
  refine mJ_top ha0 ?_
  refine mJ_istore_n dX8_room_27 (Nat.le_of_ble_eq_true rfl) (ls2 := [_, _, _, _]) rfl ?_
  refine mJ_iload_n dX8_room_28 rfl ?_
  refine mJ_tin 112 dX8_room_29 (by decide) (by decide) rfl rfl ?_
  refine mJ_aload_n dX8_room_112 rfl ?_
  refine mJ_get dX8_room_113 f_X8_7 rfl rfl ?_
  refine mJ_iconst (v := 1) dX8_room_116 rfl ?_
  refine mJ_ialdN dX8_room_117 rfl (j := 1) ⟨rfl, by decide, by decide⟩ ?_
  refine mJ_aload_n dX8_room_118 rfl ?_
  refine mJ_get dX8_room_119 f_X8_7 rfl rfl ?_
  refine mJ_iconst (v := 3) dX8_room_122 rfl ?_
  refine mJ_ialdN dX8_room_123 rfl (j := 3) ⟨rfl, by decide, by decide⟩ ?_
  refine mJ_iadd dX8_room_124 ?_
  refine mJ_aload_n dX8_room_125 rfl ?_
  refine mJ_iload_n dX8_room_126 rfl ?_
  refine mJ_iconst (v := 1) dX8_room_127 rfl ?_
  refine mJ_cV2i dX8_room_128 e_X8_ofAnchor n_X8_40 ⟨Nat.le_of_ble_eq_true rfl, Nat.le_of_ble_eq_true rfl⟩ rfl rfl (Nat.le_of_ble_eq_true rfl) (C_X8_ofAnchor (w := 1) ha (by decide)) ?_
  refine mJ_isub dX8_room_131 ?_
  refine mJ_aload_n dX8_room_132 rfl ?_
  refine mJ_iload_n dX8_room_133 rfl ?_
  refine mJ_iconst (v := 3) dX8_room_134 rfl ?_
  refine mJ_cV2i dX8_room_135 e_X8_ofAnchor n_X8_40 ⟨Nat.le_of_ble_eq_true rfl, Nat.le_of_ble_eq_true rfl⟩ rfl rfl (Nat.le_of_ble_eq_true rfl) (C_X8_ofAnchor (w := 3) ha (by decide)) ?_
  refine mJ_isub dX8_room_138 ?_
  refine mJ_aload_n dX8_room_139 rfl ?_
  refine mJ_get dX8_room_140 f_X8_7 rfl rfl ?_
  refine mJ_iconst (v := 4) dX8_room_143 rfl ?_
  refine mJ_ialdN dX8_room_144 rfl (j := 4) ⟨rfl, by decide, by decide⟩ ?_
  refine mJ_isub dX8_room_145 ?_
  exact mJ_iret dX8_room_146 rfl (rfl) (rfl)
set_option maxHeartbeats 4000000 in
set_option maxRecDepth 100000 in
theorem C_X8_room_3 {d was text ord why son tri : aF} {sta typ at_ sig fst snd rea lef top shf arr goo shn trs : Int32}  {h a : Nat} (hh : h < 12) (h1 : q_rg (nI h) 0 (d 50 - 1)) (ha0 : dH d h 0 = nI a) (ha : a < 10) : mCt k_X8_room [.ref 0, .int (nI h), .int 3] (mH d was sta text typ at_ sig fst snd rea lef top shf arr goo ord why son shn tri trs) (some (.int (m_room d a 3))) (mH (d) (was) (sta) text typ at_ sig fst snd rea lef top shf arr goo ord why son shn tri trs) := by
  refine mCt_intro (plainFor_of_name rfl) (Nat.le_of_ble_eq_true rfl) (m_all rfl) (ls := [_, _, _, _]) rfl ?_
  refine mJ_aload_n dX8_room_0 rfl ?_
  refine mJ_iload_n dX8_room_1 rfl ?_
  refine mJ_cV1i dX8_room_2 e_X8_isHint n_X8_138 ⟨Nat.le_of_ble_eq_true rfl, Nat.le_of_ble_eq_true rfl⟩ rfl rfl (Nat.le_of_ble_eq_true rfl) (C_X8_isHint) ?_
  refine mJ_top (b2i_t h1) ?_
  refine mJ_if_eq 17 dX8_room_5 rfl (fun c => absurd c (by decide)) (fun _ => ?_)
  refine mJ_iload_n dX8_room_8 rfl ?_
  refine mJ_iconst (v := 0) dX8_room_9 rfl ?_
  refine mJ_iconst (v := 3) dX8_room_10 rfl ?_
  refine mJ_cS3i dX8_room_11 e_X8_in n_X8_32 ⟨Nat.le_of_ble_eq_true rfl, Nat.le_of_ble_eq_true rfl⟩ (Nat.le_of_ble_eq_true rfl) (C_X8_in) ?_
  refine mJ_top (b2i_t ⟨by decide, by decide⟩) ?_
  refine mJ_if_ne 21 dX8_room_14 rfl (fun _ => ?_) (fun c => absurd c (by decide))
  refine mJ_aload_n dX8_room_21 rfl ?_
  refine mJ_iload_n dX8_room_22 rfl ?_
  refine mJ_iconst (v := 0) dX8_room_23 rfl ?_
  refine mJ_cV2i dX8_room_24 e_X8_ofHint n_X8_52 ⟨Nat.le_of_ble_eq_true rfl, Nat.le_of_ble_eq_true rfl⟩ rfl rfl (Nat.le_of_ble_eq_true rfl) (C_X8_ofHint (w := 0) hh (by decide)) ?_
  refine mJ_top ha0 ?_
  refine mJ_istore_n dX8_room_27 (Nat.le_of_ble_eq_true rfl) (ls2 := [_, _, _, _]) rfl ?_
  refine mJ_iload_n dX8_room_28 rfl ?_
  refine mJ_tout 147 dX8_room_29 (by decide) rfl ?_
  refine mJ_aload_n dX8_room_147 rfl ?_
  refine mJ_iload_n dX8_room_148 rfl ?_
  refine mJ_iconst (v := 0) dX8_room_149 rfl ?_
  refine mJ_cV2i dX8_room_150 e_X8_ofAnchor n_X8_40 ⟨Nat.le_of_ble_eq_true rfl, Nat.le_of_ble_eq_true rfl⟩ rfl rfl (Nat.le_of_ble_eq_true rfl) (C_X8_ofAnchor (w := 0) ha (by decide)) ?_
  refine mJ_aload_n dX8_room_153 rfl ?_
  refine mJ_get dX8_room_154 f_X8_7 rfl rfl ?_
  refine mJ_iconst (v := 4) dX8_room_157 rfl ?_
  refine mJ_ialdN dX8_room_158 rfl (j := 4) ⟨rfl, by decide, by decide⟩ ?_
  refine mJ_isub dX8_room_159 ?_
  refine mJ_aload_n dX8_room_160 rfl ?_
  refine mJ_get dX8_room_161 f_X8_7 rfl rfl ?_
  refine mJ_iconst (v := 0) dX8_room_164 rfl ?_
  refine mJ_ialdN dX8_room_165 rfl (j := 0) ⟨rfl, by decide, by decide⟩ ?_
  refine mJ_isub dX8_room_166 ?_
  exact mJ_iret dX8_room_167 rfl (rfl) (rfl)
