/-! THE REFERENCE: public methods -/
def q_cs (d : aF) (x y : Int32) : Prop := q_rg (d 0 + x) (-2000) 2000 ∧ q_rg (d 1 + y) (-2000) 2000
def q_st (w v : Int32) : Prop := (w = 0 ∧ q_rg v 0 30) ∨ (w = 1 ∧ q_rg v 0 20) ∨ (w = 2 ∧ q_rg v 1 6) ∨ (w = 3 ∧ q_rg v 0 1) ∨ (w = 4 ∧ q_rg v 0 1)
def q_of (d : aF) (w v : Int32) : Prop := (w = 0 ∧ q_rg v 0 (d 9 - 1)) ∨ (w = 1 ∧ q_rg v 1 200) ∨ (w = 2 ∧ q_rg v 1 200) ∨ (w = 3 ∧ q_rg v 0 3) ∨ (w = 4 ∧ q_rg v 0 2) ∨ (w = 5 ∧ q_rg v 0 2) ∨ (w = 6 ∧ q_rg v 0 1) ∨ (w = 7 ∧ q_rg v 0 9)
noncomputable def cP (P : Nat → Prop) : Nat → Int32
  | 0 => 0
  | k + 1 => iif (P k) (cP P k + 1) (cP P k)
noncomputable def cS (P : Nat → Prop) (f : Nat → Int32) : Nat → Int32
  | 0 => 0
  | k + 1 => iif (P k) (cS P f k + f k) (cS P f k)
theorem cP_congr {P Q : Nat → Prop} : ∀ {n : Nat}, (∀ k, k < n → (P k ↔ Q k)) → cP P n = cP Q n
  | 0, _ => rfl
  | n + 1, h => by
    show iif (P n) _ _ = iif (Q n) _ _
    rw [cP_congr (fun k hk => h k (by omega)), propext (h n (by omega))]
theorem cS_congr {P Q : Nat → Prop} {f g : Nat → Int32} : ∀ {n : Nat}, (∀ k, k < n → (P k ↔ Q k)) → (∀ k, k < n → f k = g k) → cS P f n = cS Q g n
  | 0, _, _ => rfl
  | n + 1, h, h2 => by
    show iif (P n) _ _ = iif (Q n) _ _
    rw [cS_congr (fun k hk => h k (by omega)) (fun k hk => h2 k (by omega)), propext (h n (by omega)), h2 n (by omega)]
set_option maxHeartbeats 4000000 in
set_option maxRecDepth 100000 in
theorem C_X8_view_bad {d was text ord why son tri : aF} {sta typ at_ sig fst snd rea lef top shf arr goo shn trs : Int32} {w h : Int32} (hb : ¬ (q_rg w 20 400 ∧ q_rg h 20 400)) : mCt k_X8_view [.ref 0, .int w, .int h] (mH d was sta text typ at_ sig fst snd rea lef top shf arr goo ord why son shn tri trs) (some (.int (-10001))) (mH d was sta text typ at_ sig fst snd rea lef top shf arr goo ord why son shn tri trs) := by
  refine mCt_intro (plainFor_of_name rfl) (Nat.le_of_ble_eq_true rfl) (m_all rfl) (ls := [_, _, _]) rfl ?_
  refine mJ_iload_n dX8_view_0 rfl ?_
  refine mJ_bipush (v := 20) dX8_view_1 rfl ?_
  refine mJ_sipush (v := 400) dX8_view_3 rfl ?_
  refine mJ_cS3i dX8_view_6 e_X8_in n_X8_32 ⟨Nat.le_of_ble_eq_true rfl, Nat.le_of_ble_eq_true rfl⟩ (Nat.le_of_ble_eq_true rfl) (C_X8_in) ?_
  refine mJ_b2i (fun b_6 => ?_) (fun b_6 => ?_)
  · refine mJ_if_eq 24 dX8_view_9 rfl (fun c => absurd c (by decide)) (fun _ => ?_)
    refine mJ_iload_n dX8_view_12 rfl ?_
    refine mJ_bipush (v := 20) dX8_view_13 rfl ?_
    refine mJ_sipush (v := 400) dX8_view_15 rfl ?_
    refine mJ_cS3i dX8_view_18 e_X8_in n_X8_32 ⟨Nat.le_of_ble_eq_true rfl, Nat.le_of_ble_eq_true rfl⟩ (Nat.le_of_ble_eq_true rfl) (C_X8_in) ?_
    refine mJ_b2i (fun b_18 => ?_) (fun b_18 => ?_)
    · exact False.elim (by exact hb ⟨b_6, b_18⟩)
    · refine mJ_if_ne 28 dX8_view_21 rfl (fun c => absurd c (by decide)) (fun _ => ?_)
      refine mJ_sipush (v := (-10001)) dX8_view_24 rfl ?_
      exact mJ_iret dX8_view_27 rfl (rfl) (rfl)
  · refine mJ_if_eq 24 dX8_view_9 rfl (fun _ => ?_) (fun c => absurd c (by decide))
    refine mJ_sipush (v := (-10001)) dX8_view_24 rfl ?_
    exact mJ_iret dX8_view_27 rfl (rfl) (rfl)
set_option maxHeartbeats 4000000 in
set_option maxRecDepth 100000 in
theorem C_X8_view {d was text ord why son tri : aF} {typ at_ sig fst snd rea lef top shf arr goo shn trs : Int32} {nA nH nO : Nat} {w h : Int32} {n : Nat} (hn : n ≤ 5) (h1 : q_rg w 20 400) (h2 : q_rg h 20 400) (hw' : wD (upd (upd d 2 w) 3 h) nA nH nO) (hi' : wI (upd (upd d 2 w) 3 h) nO) : ∃ (lef' top' shf' arr' goo' : Int32) (ord' why' son' tri' : aF) (trs' : Int32), mCt k_X8_view [.ref 0, .int w, .int h] (mH d was (nI n) text typ at_ sig fst snd rea lef top shf arr goo ord why son shn tri trs) (some (.int (p_all (upd (upd d 2 w) 3 h) nA nH nO).2.2)) (mH (upd (upd d 2 w) 3 h) (mR was d n) (nI (mN n)) text typ at_ sig fst snd rea (lef') (top') (shf') (arr') (goo') (ord') (why') (son') ((p_all (upd (upd d 2 w) 3 h) nA nH nO).2.2) (tri') (trs')) := by
  obtain ⟨l1, t1, s1, a1, o1, d1, y1, n1, r1, z1, hj⟩ := C_X8_many (d := upd (upd d 2 w) 3 h) (was := mR was d n) (sta := nI (mN n)) (shn := shn) (text := text) (typ := typ) (at_ := at_) (sig := sig) (fst := fst) (snd := snd) (rea := rea) (lef := lef) (top := top) (shf := shf) (arr := arr) (goo := goo) (ord := ord) (why := why) (son := son) (tri := tri) (trs := trs) hw' hi'
  refine ⟨l1, t1, s1, a1, o1, d1, y1, n1, r1, z1, ?_⟩
  refine mCt_intro (plainFor_of_name rfl) (Nat.le_of_ble_eq_true rfl) (m_all rfl) (ls := [_, _, _]) rfl ?_
  refine mJ_iload_n dX8_view_0 rfl ?_
  refine mJ_bipush (v := 20) dX8_view_1 rfl ?_
  refine mJ_sipush (v := 400) dX8_view_3 rfl ?_
  refine mJ_cS3i dX8_view_6 e_X8_in n_X8_32 ⟨Nat.le_of_ble_eq_true rfl, Nat.le_of_ble_eq_true rfl⟩ (Nat.le_of_ble_eq_true rfl) (C_X8_in) ?_
  refine mJ_top (b2i_t h1) ?_
  refine mJ_if_eq 24 dX8_view_9 rfl (fun c => absurd c (by decide)) (fun _ => ?_)
  refine mJ_iload_n dX8_view_12 rfl ?_
  refine mJ_bipush (v := 20) dX8_view_13 rfl ?_
  refine mJ_sipush (v := 400) dX8_view_15 rfl ?_
  refine mJ_cS3i dX8_view_18 e_X8_in n_X8_32 ⟨Nat.le_of_ble_eq_true rfl, Nat.le_of_ble_eq_true rfl⟩ (Nat.le_of_ble_eq_true rfl) (C_X8_in) ?_
  refine mJ_top (b2i_t h2) ?_
  refine mJ_if_ne 28 dX8_view_21 rfl (fun _ => ?_) (fun c => absurd c (by decide))
  refine mJ_aload_n dX8_view_28 rfl ?_
  refine mJ_cV0v dX8_view_29 e_X8_records n_X8_115 ⟨Nat.le_of_ble_eq_true rfl, Nat.le_of_ble_eq_true rfl⟩ rfl rfl (Nat.le_of_ble_eq_true rfl) (C_X8_records hn) ?_
  refine mJ_aload_n dX8_view_32 rfl ?_
  refine mJ_get dX8_view_33 f_X8_7 rfl rfl ?_
  refine mJ_iconst (v := 2) dX8_view_36 rfl ?_
  refine mJ_iload_n dX8_view_37 rfl ?_
  refine mJ_iastN dX8_view_38 rfl (j := 2) ⟨rfl, by decide, by decide⟩ (h2 := mH _ _ _ _ _ _ _ _ _ _ _ _ _ _ _ _ _ _ _ _ _) rfl ?_
  refine mJ_aload_n dX8_view_39 rfl ?_
  refine mJ_get dX8_view_40 f_X8_7 rfl rfl ?_
  refine mJ_iconst (v := 3) dX8_view_43 rfl ?_
  refine mJ_iload_n dX8_view_44 rfl ?_
  refine mJ_iastN dX8_view_45 rfl (j := 3) ⟨rfl, by decide, by decide⟩ (h2 := mH _ _ _ _ _ _ _ _ _ _ _ _ _ _ _ _ _ _ _ _ _) rfl ?_
  refine mJ_aload_n dX8_view_46 rfl ?_
  refine mJ_cV0i dX8_view_47 e_X8_many n_X8_118 ⟨Nat.le_of_ble_eq_true rfl, Nat.le_of_ble_eq_true rfl⟩ rfl rfl (Nat.le_of_ble_eq_true rfl) (hj) ?_
  exact mJ_iret dX8_view_50 rfl (rfl) (rfl)
set_option maxHeartbeats 4000000 in
set_option maxRecDepth 100000 in
theorem C_X8_canScroll {d was text ord why son tri : aF} {sta typ at_ sig fst snd rea lef top shf arr goo shn trs : Int32} {x y : Int32} : mCt k_X8_canScroll [.ref 0, .int x, .int y] (mH d was sta text typ at_ sig fst snd rea lef top shf arr goo ord why son shn tri trs) (some (.int (b2i (q_cs d x y)))) (mH d was sta text typ at_ sig fst snd rea lef top shf arr goo ord why son shn tri trs) := by
  refine mCt_intro (plainFor_of_name rfl) (Nat.le_of_ble_eq_true rfl) (m_all rfl) (ls := [_, _, _]) rfl ?_
  refine mJ_aload_n dX8_canScroll_0 rfl ?_
  refine mJ_get dX8_canScroll_1 f_X8_7 rfl rfl ?_
  refine mJ_iconst (v := 0) dX8_canScroll_4 rfl ?_
  refine mJ_ialdN dX8_canScroll_5 rfl (j := 0) ⟨rfl, by decide, by decide⟩ ?_
  refine mJ_iload_n dX8_canScroll_6 rfl ?_
  refine mJ_iadd dX8_canScroll_7 ?_
  refine mJ_sipush (v := (-2000)) dX8_canScroll_8 rfl ?_
  refine mJ_sipush (v := 2000) dX8_canScroll_11 rfl ?_
  refine mJ_cS3i dX8_canScroll_14 e_X8_in n_X8_32 ⟨Nat.le_of_ble_eq_true rfl, Nat.le_of_ble_eq_true rfl⟩ (Nat.le_of_ble_eq_true rfl) (C_X8_in) ?_
  refine mJ_b2i (fun b_14 => ?_) (fun b_14 => ?_)
  · refine mJ_if_eq 44 dX8_canScroll_17 rfl (fun c => absurd c (by decide)) (fun _ => ?_)
    refine mJ_aload_n dX8_canScroll_20 rfl ?_
    refine mJ_get dX8_canScroll_21 f_X8_7 rfl rfl ?_
    refine mJ_iconst (v := 1) dX8_canScroll_24 rfl ?_
    refine mJ_ialdN dX8_canScroll_25 rfl (j := 1) ⟨rfl, by decide, by decide⟩ ?_
    refine mJ_iload_n dX8_canScroll_26 rfl ?_
    refine mJ_iadd dX8_canScroll_27 ?_
    refine mJ_sipush (v := (-2000)) dX8_canScroll_28 rfl ?_
    refine mJ_sipush (v := 2000) dX8_canScroll_31 rfl ?_
    refine mJ_cS3i dX8_canScroll_34 e_X8_in n_X8_32 ⟨Nat.le_of_ble_eq_true rfl, Nat.le_of_ble_eq_true rfl⟩ (Nat.le_of_ble_eq_true rfl) (C_X8_in) ?_
    refine mJ_b2i (fun b_34 => ?_) (fun b_34 => ?_)
    · refine mJ_if_eq 44 dX8_canScroll_37 rfl (fun c => absurd c (by decide)) (fun _ => ?_)
      refine mJ_iconst (v := 1) dX8_canScroll_40 rfl ?_
      refine mJ_goto 45 dX8_canScroll_41 rfl ?_
      exact mJ_zret dX8_canScroll_45 rfl (Or.inr rfl) (by first | exact z_t (by simp_all [q_cs]) | exact z_f (by simp_all [q_cs])) (rfl)
    · refine mJ_if_eq 44 dX8_canScroll_37 rfl (fun _ => ?_) (fun c => absurd c (by decide))
      refine mJ_iconst (v := 0) dX8_canScroll_44 rfl ?_
      exact mJ_zret dX8_canScroll_45 rfl (Or.inl rfl) (by first | exact z_t (by simp_all [q_cs]) | exact z_f (by simp_all [q_cs])) (rfl)
  · refine mJ_if_eq 44 dX8_canScroll_17 rfl (fun _ => ?_) (fun c => absurd c (by decide))
    refine mJ_iconst (v := 0) dX8_canScroll_44 rfl ?_
    exact mJ_zret dX8_canScroll_45 rfl (Or.inl rfl) (by first | exact z_t (by simp_all [q_cs]) | exact z_f (by simp_all [q_cs])) (rfl)
set_option maxHeartbeats 4000000 in
set_option maxRecDepth 100000 in
theorem C_X8_scroll_bad {d was text ord why son tri : aF} {sta typ at_ sig fst snd rea lef top shf arr goo shn trs : Int32} {x y : Int32} (hb : ¬ (q_rg x (-1000) 1000 ∧ q_rg y (-1000) 1000)) : mCt k_X8_scroll [.ref 0, .int x, .int y] (mH d was sta text typ at_ sig fst snd rea lef top shf arr goo ord why son shn tri trs) (some (.int (-10001))) (mH d was sta text typ at_ sig fst snd rea lef top shf arr goo ord why son shn tri trs) := by
  refine mCt_intro (plainFor_of_name rfl) (Nat.le_of_ble_eq_true rfl) (m_all rfl) (ls := [_, _, _]) rfl ?_
  refine mJ_iload_n dX8_scroll_0 rfl ?_
  refine mJ_sipush (v := (-1000)) dX8_scroll_1 rfl ?_
  refine mJ_sipush (v := 1000) dX8_scroll_4 rfl ?_
  refine mJ_cS3i dX8_scroll_7 e_X8_in n_X8_32 ⟨Nat.le_of_ble_eq_true rfl, Nat.le_of_ble_eq_true rfl⟩ (Nat.le_of_ble_eq_true rfl) (C_X8_in) ?_
  refine mJ_b2i (fun b_7 => ?_) (fun b_7 => ?_)
  · refine mJ_if_eq 26 dX8_scroll_10 rfl (fun c => absurd c (by decide)) (fun _ => ?_)
    refine mJ_iload_n dX8_scroll_13 rfl ?_
    refine mJ_sipush (v := (-1000)) dX8_scroll_14 rfl ?_
    refine mJ_sipush (v := 1000) dX8_scroll_17 rfl ?_
    refine mJ_cS3i dX8_scroll_20 e_X8_in n_X8_32 ⟨Nat.le_of_ble_eq_true rfl, Nat.le_of_ble_eq_true rfl⟩ (Nat.le_of_ble_eq_true rfl) (C_X8_in) ?_
    refine mJ_b2i (fun b_20 => ?_) (fun b_20 => ?_)
    · exact False.elim (by exact hb ⟨b_7, b_20⟩)
    · refine mJ_if_ne 30 dX8_scroll_23 rfl (fun c => absurd c (by decide)) (fun _ => ?_)
      refine mJ_sipush (v := (-10001)) dX8_scroll_26 rfl ?_
      exact mJ_iret dX8_scroll_29 rfl (rfl) (rfl)
  · refine mJ_if_eq 26 dX8_scroll_10 rfl (fun _ => ?_) (fun c => absurd c (by decide))
    refine mJ_sipush (v := (-10001)) dX8_scroll_26 rfl ?_
    exact mJ_iret dX8_scroll_29 rfl (rfl) (rfl)
set_option maxHeartbeats 4000000 in
set_option maxRecDepth 100000 in
theorem C_X8_scroll_np {d was text ord why son tri : aF} {sta typ at_ sig fst snd rea lef top shf arr goo shn trs : Int32}  {x y : Int32} (h1 : q_rg x (-1000) 1000) (h2 : q_rg y (-1000) 1000) (h3 : ¬ q_cs d x y) : mCt k_X8_scroll [.ref 0, .int x, .int y] (mH d was sta text typ at_ sig fst snd rea lef top shf arr goo ord why son shn tri trs) (some (.int (-10002))) (mH (d) (was) (sta) text typ at_ sig fst snd rea lef top shf arr goo ord why son shn tri trs) := by
  refine mCt_intro (plainFor_of_name rfl) (Nat.le_of_ble_eq_true rfl) (m_all rfl) (ls := [_, _, _]) rfl ?_
  refine mJ_iload_n dX8_scroll_0 rfl ?_
  refine mJ_sipush (v := (-1000)) dX8_scroll_1 rfl ?_
  refine mJ_sipush (v := 1000) dX8_scroll_4 rfl ?_
  refine mJ_cS3i dX8_scroll_7 e_X8_in n_X8_32 ⟨Nat.le_of_ble_eq_true rfl, Nat.le_of_ble_eq_true rfl⟩ (Nat.le_of_ble_eq_true rfl) (C_X8_in) ?_
  refine mJ_top (b2i_t h1) ?_
  refine mJ_if_eq 26 dX8_scroll_10 rfl (fun c => absurd c (by decide)) (fun _ => ?_)
  refine mJ_iload_n dX8_scroll_13 rfl ?_
  refine mJ_sipush (v := (-1000)) dX8_scroll_14 rfl ?_
  refine mJ_sipush (v := 1000) dX8_scroll_17 rfl ?_
  refine mJ_cS3i dX8_scroll_20 e_X8_in n_X8_32 ⟨Nat.le_of_ble_eq_true rfl, Nat.le_of_ble_eq_true rfl⟩ (Nat.le_of_ble_eq_true rfl) (C_X8_in) ?_
  refine mJ_top (b2i_t h2) ?_
  refine mJ_if_ne 30 dX8_scroll_23 rfl (fun _ => ?_) (fun c => absurd c (by decide))
  refine mJ_aload_n dX8_scroll_30 rfl ?_
  refine mJ_iload_n dX8_scroll_31 rfl ?_
  refine mJ_iload_n dX8_scroll_32 rfl ?_
  refine mJ_cV2i dX8_scroll_33 e_X8_canScroll n_X8_122 ⟨Nat.le_of_ble_eq_true rfl, Nat.le_of_ble_eq_true rfl⟩ rfl rfl (Nat.le_of_ble_eq_true rfl) (C_X8_canScroll) ?_
  refine mJ_top (b2i_f h3) ?_
  refine mJ_if_ne 43 dX8_scroll_36 rfl (fun c => absurd c (by decide)) (fun _ => ?_)
  refine mJ_sipush (v := (-10002)) dX8_scroll_39 rfl ?_
  exact mJ_iret dX8_scroll_42 rfl (rfl) (rfl)
set_option maxHeartbeats 4000000 in
set_option maxRecDepth 100000 in
theorem C_X8_scroll {d was text ord why son tri : aF} {typ at_ sig fst snd rea lef top shf arr goo shn trs : Int32} {nA nH nO : Nat} {x y : Int32} {n : Nat} (hn : n ≤ 5) (h1 : q_rg x (-1000) 1000) (h2 : q_rg y (-1000) 1000) (h3 : q_cs d x y) (hw' : wD (upd (upd d 0 (d 0 + x)) 1 (d 1 + y)) nA nH nO) (hi' : wI (upd (upd d 0 (d 0 + x)) 1 (d 1 + y)) nO) : ∃ (lef' top' shf' arr' goo' : Int32) (ord' why' son' tri' : aF) (trs' : Int32), mCt k_X8_scroll [.ref 0, .int x, .int y] (mH d was (nI n) text typ at_ sig fst snd rea lef top shf arr goo ord why son shn tri trs) (some (.int (p_all (upd (upd d 0 (d 0 + x)) 1 (d 1 + y)) nA nH nO).2.2)) (mH (upd (upd d 0 (d 0 + x)) 1 (d 1 + y)) (mR was d n) (nI (mN n)) text typ at_ sig fst snd rea (lef') (top') (shf') (arr') (goo') (ord') (why') (son') ((p_all (upd (upd d 0 (d 0 + x)) 1 (d 1 + y)) nA nH nO).2.2) (tri') (trs')) := by
  obtain ⟨l1, t1, s1, a1, o1, d1, y1, n1, r1, z1, hj⟩ := C_X8_many (d := upd (upd d 0 (d 0 + x)) 1 (d 1 + y)) (was := mR was d n) (sta := nI (mN n)) (shn := shn) (text := text) (typ := typ) (at_ := at_) (sig := sig) (fst := fst) (snd := snd) (rea := rea) (lef := lef) (top := top) (shf := shf) (arr := arr) (goo := goo) (ord := ord) (why := why) (son := son) (tri := tri) (trs := trs) hw' hi'
  refine ⟨l1, t1, s1, a1, o1, d1, y1, n1, r1, z1, ?_⟩
  refine mCt_intro (plainFor_of_name rfl) (Nat.le_of_ble_eq_true rfl) (m_all rfl) (ls := [_, _, _]) rfl ?_
  refine mJ_iload_n dX8_scroll_0 rfl ?_
  refine mJ_sipush (v := (-1000)) dX8_scroll_1 rfl ?_
  refine mJ_sipush (v := 1000) dX8_scroll_4 rfl ?_
  refine mJ_cS3i dX8_scroll_7 e_X8_in n_X8_32 ⟨Nat.le_of_ble_eq_true rfl, Nat.le_of_ble_eq_true rfl⟩ (Nat.le_of_ble_eq_true rfl) (C_X8_in) ?_
  refine mJ_top (b2i_t h1) ?_
  refine mJ_if_eq 26 dX8_scroll_10 rfl (fun c => absurd c (by decide)) (fun _ => ?_)
  refine mJ_iload_n dX8_scroll_13 rfl ?_
  refine mJ_sipush (v := (-1000)) dX8_scroll_14 rfl ?_
  refine mJ_sipush (v := 1000) dX8_scroll_17 rfl ?_
  refine mJ_cS3i dX8_scroll_20 e_X8_in n_X8_32 ⟨Nat.le_of_ble_eq_true rfl, Nat.le_of_ble_eq_true rfl⟩ (Nat.le_of_ble_eq_true rfl) (C_X8_in) ?_
  refine mJ_top (b2i_t h2) ?_
  refine mJ_if_ne 30 dX8_scroll_23 rfl (fun _ => ?_) (fun c => absurd c (by decide))
  refine mJ_aload_n dX8_scroll_30 rfl ?_
  refine mJ_iload_n dX8_scroll_31 rfl ?_
  refine mJ_iload_n dX8_scroll_32 rfl ?_
  refine mJ_cV2i dX8_scroll_33 e_X8_canScroll n_X8_122 ⟨Nat.le_of_ble_eq_true rfl, Nat.le_of_ble_eq_true rfl⟩ rfl rfl (Nat.le_of_ble_eq_true rfl) (C_X8_canScroll) ?_
  refine mJ_top (b2i_t h3) ?_
  refine mJ_if_ne 43 dX8_scroll_36 rfl (fun _ => ?_) (fun c => absurd c (by decide))
  refine mJ_aload_n dX8_scroll_43 rfl ?_
  refine mJ_cV0v dX8_scroll_44 e_X8_records n_X8_115 ⟨Nat.le_of_ble_eq_true rfl, Nat.le_of_ble_eq_true rfl⟩ rfl rfl (Nat.le_of_ble_eq_true rfl) (C_X8_records hn) ?_
  refine mJ_aload_n dX8_scroll_47 rfl ?_
  refine mJ_get dX8_scroll_48 f_X8_7 rfl rfl ?_
  refine mJ_iconst (v := 0) dX8_scroll_51 rfl ?_
  refine mJ_dup2 dX8_scroll_52 rfl rfl ?_
  refine mJ_ialdN dX8_scroll_53 rfl (j := 0) ⟨rfl, by decide, by decide⟩ ?_
  refine mJ_iload_n dX8_scroll_54 rfl ?_
  refine mJ_iadd dX8_scroll_55 ?_
  refine mJ_iastN dX8_scroll_56 rfl (j := 0) ⟨rfl, by decide, by decide⟩ (h2 := mH _ _ _ _ _ _ _ _ _ _ _ _ _ _ _ _ _ _ _ _ _) rfl ?_
  refine mJ_aload_n dX8_scroll_57 rfl ?_
  refine mJ_get dX8_scroll_58 f_X8_7 rfl rfl ?_
  refine mJ_iconst (v := 1) dX8_scroll_61 rfl ?_
  refine mJ_dup2 dX8_scroll_62 rfl rfl ?_
  refine mJ_ialdN dX8_scroll_63 rfl (j := 1) ⟨rfl, by decide, by decide⟩ ?_
  refine mJ_top (upd_ne (by decide)) ?_
  refine mJ_iload_n dX8_scroll_64 rfl ?_
  refine mJ_iadd dX8_scroll_65 ?_
  refine mJ_iastN dX8_scroll_66 rfl (j := 1) ⟨rfl, by decide, by decide⟩ (h2 := mH _ _ _ _ _ _ _ _ _ _ _ _ _ _ _ _ _ _ _ _ _) rfl ?_
  refine mJ_aload_n dX8_scroll_67 rfl ?_
  refine mJ_cV0i dX8_scroll_68 e_X8_many n_X8_118 ⟨Nat.le_of_ble_eq_true rfl, Nat.le_of_ble_eq_true rfl⟩ rfl rfl (Nat.le_of_ble_eq_true rfl) (hj) ?_
  exact mJ_iret dX8_scroll_71 rfl (rfl) (rfl)
set_option maxHeartbeats 4000000 in
set_option maxRecDepth 100000 in
theorem C_X8_anchor_bad {d was text ord why son tri : aF} {sta typ at_ sig fst snd rea lef top shf arr goo shn trs : Int32} {x y w h : Int32} (hb : ¬ (q_rg x (-1000) 1000 ∧ q_rg y (-1000) 1000 ∧ q_rg w 1 200 ∧ q_rg h 1 200)) : mCt k_X8_anchor [.ref 0, .int x, .int y, .int w, .int h] (mH d was sta text typ at_ sig fst snd rea lef top shf arr goo ord why son shn tri trs) (some (.int (-10001))) (mH d was sta text typ at_ sig fst snd rea lef top shf arr goo ord why son shn tri trs) := by
  refine mCt_intro (plainFor_of_name rfl) (Nat.le_of_ble_eq_true rfl) (m_all rfl) (ls := [_, _, _, _, _, _]) rfl ?_
  refine mJ_iload_n dX8_anchor_0 rfl ?_
  refine mJ_sipush (v := (-1000)) dX8_anchor_1 rfl ?_
  refine mJ_sipush (v := 1000) dX8_anchor_4 rfl ?_
  refine mJ_cS3i dX8_anchor_7 e_X8_in n_X8_32 ⟨Nat.le_of_ble_eq_true rfl, Nat.le_of_ble_eq_true rfl⟩ (Nat.le_of_ble_eq_true rfl) (C_X8_in) ?_
  refine mJ_b2i (fun b_7 => ?_) (fun b_7 => ?_)
  · refine mJ_if_eq 49 dX8_anchor_10 rfl (fun c => absurd c (by decide)) (fun _ => ?_)
    refine mJ_iload_n dX8_anchor_13 rfl ?_
    refine mJ_sipush (v := (-1000)) dX8_anchor_14 rfl ?_
    refine mJ_sipush (v := 1000) dX8_anchor_17 rfl ?_
    refine mJ_cS3i dX8_anchor_20 e_X8_in n_X8_32 ⟨Nat.le_of_ble_eq_true rfl, Nat.le_of_ble_eq_true rfl⟩ (Nat.le_of_ble_eq_true rfl) (C_X8_in) ?_
    refine mJ_b2i (fun b_20 => ?_) (fun b_20 => ?_)
    · refine mJ_if_eq 49 dX8_anchor_23 rfl (fun c => absurd c (by decide)) (fun _ => ?_)
      refine mJ_iload_n dX8_anchor_26 rfl ?_
      refine mJ_iconst (v := 1) dX8_anchor_27 rfl ?_
      refine mJ_sipush (v := 200) dX8_anchor_28 rfl ?_
      refine mJ_cS3i dX8_anchor_31 e_X8_in n_X8_32 ⟨Nat.le_of_ble_eq_true rfl, Nat.le_of_ble_eq_true rfl⟩ (Nat.le_of_ble_eq_true rfl) (C_X8_in) ?_
      refine mJ_b2i (fun b_31 => ?_) (fun b_31 => ?_)
      · refine mJ_if_eq 49 dX8_anchor_34 rfl (fun c => absurd c (by decide)) (fun _ => ?_)
        refine mJ_iload dX8_anchor_37 rfl ?_
        refine mJ_iconst (v := 1) dX8_anchor_39 rfl ?_
        refine mJ_sipush (v := 200) dX8_anchor_40 rfl ?_
        refine mJ_cS3i dX8_anchor_43 e_X8_in n_X8_32 ⟨Nat.le_of_ble_eq_true rfl, Nat.le_of_ble_eq_true rfl⟩ (Nat.le_of_ble_eq_true rfl) (C_X8_in) ?_
        refine mJ_b2i (fun b_43 => ?_) (fun b_43 => ?_)
        · exact False.elim (by exact hb ⟨b_7, b_20, b_31, b_43⟩)
        · refine mJ_if_ne 53 dX8_anchor_46 rfl (fun c => absurd c (by decide)) (fun _ => ?_)
          refine mJ_sipush (v := (-10001)) dX8_anchor_49 rfl ?_
          exact mJ_iret dX8_anchor_52 rfl (rfl) (rfl)
      · refine mJ_if_eq 49 dX8_anchor_34 rfl (fun _ => ?_) (fun c => absurd c (by decide))
        refine mJ_sipush (v := (-10001)) dX8_anchor_49 rfl ?_
        exact mJ_iret dX8_anchor_52 rfl (rfl) (rfl)
    · refine mJ_if_eq 49 dX8_anchor_23 rfl (fun _ => ?_) (fun c => absurd c (by decide))
      refine mJ_sipush (v := (-10001)) dX8_anchor_49 rfl ?_
      exact mJ_iret dX8_anchor_52 rfl (rfl) (rfl)
  · refine mJ_if_eq 49 dX8_anchor_10 rfl (fun _ => ?_) (fun c => absurd c (by decide))
    refine mJ_sipush (v := (-10001)) dX8_anchor_49 rfl ?_
    exact mJ_iret dX8_anchor_52 rfl (rfl) (rfl)
set_option maxHeartbeats 4000000 in
set_option maxRecDepth 100000 in
theorem C_X8_anchor_lim {d was text ord why son tri : aF} {sta typ at_ sig fst snd rea lef top shf arr goo shn trs : Int32}  {x y w h : Int32} (h1 : q_rg x (-1000) 1000) (h2 : q_rg y (-1000) 1000) (h3 : q_rg w 1 200) (h4 : q_rg h 1 200) (hA : d 9 = nI 10) : mCt k_X8_anchor [.ref 0, .int x, .int y, .int w, .int h] (mH d was sta text typ at_ sig fst snd rea lef top shf arr goo ord why son shn tri trs) (some (.int (-10003))) (mH (d) (was) (sta) text typ at_ sig fst snd rea lef top shf arr goo ord why son shn tri trs) := by
  refine mCt_intro (plainFor_of_name rfl) (Nat.le_of_ble_eq_true rfl) (m_all rfl) (ls := [_, _, _, _, _, _]) rfl ?_
  refine mJ_iload_n dX8_anchor_0 rfl ?_
  refine mJ_sipush (v := (-1000)) dX8_anchor_1 rfl ?_
  refine mJ_sipush (v := 1000) dX8_anchor_4 rfl ?_
  refine mJ_cS3i dX8_anchor_7 e_X8_in n_X8_32 ⟨Nat.le_of_ble_eq_true rfl, Nat.le_of_ble_eq_true rfl⟩ (Nat.le_of_ble_eq_true rfl) (C_X8_in) ?_
  refine mJ_top (b2i_t h1) ?_
  refine mJ_if_eq 49 dX8_anchor_10 rfl (fun c => absurd c (by decide)) (fun _ => ?_)
  refine mJ_iload_n dX8_anchor_13 rfl ?_
  refine mJ_sipush (v := (-1000)) dX8_anchor_14 rfl ?_
  refine mJ_sipush (v := 1000) dX8_anchor_17 rfl ?_
  refine mJ_cS3i dX8_anchor_20 e_X8_in n_X8_32 ⟨Nat.le_of_ble_eq_true rfl, Nat.le_of_ble_eq_true rfl⟩ (Nat.le_of_ble_eq_true rfl) (C_X8_in) ?_
  refine mJ_top (b2i_t h2) ?_
  refine mJ_if_eq 49 dX8_anchor_23 rfl (fun c => absurd c (by decide)) (fun _ => ?_)
  refine mJ_iload_n dX8_anchor_26 rfl ?_
  refine mJ_iconst (v := 1) dX8_anchor_27 rfl ?_
  refine mJ_sipush (v := 200) dX8_anchor_28 rfl ?_
  refine mJ_cS3i dX8_anchor_31 e_X8_in n_X8_32 ⟨Nat.le_of_ble_eq_true rfl, Nat.le_of_ble_eq_true rfl⟩ (Nat.le_of_ble_eq_true rfl) (C_X8_in) ?_
  refine mJ_top (b2i_t h3) ?_
  refine mJ_if_eq 49 dX8_anchor_34 rfl (fun c => absurd c (by decide)) (fun _ => ?_)
  refine mJ_iload dX8_anchor_37 rfl ?_
  refine mJ_iconst (v := 1) dX8_anchor_39 rfl ?_
  refine mJ_sipush (v := 200) dX8_anchor_40 rfl ?_
  refine mJ_cS3i dX8_anchor_43 e_X8_in n_X8_32 ⟨Nat.le_of_ble_eq_true rfl, Nat.le_of_ble_eq_true rfl⟩ (Nat.le_of_ble_eq_true rfl) (C_X8_in) ?_
  refine mJ_top (b2i_t h4) ?_
  refine mJ_if_ne 53 dX8_anchor_46 rfl (fun _ => ?_) (fun c => absurd c (by decide))
  refine mJ_aload_n dX8_anchor_53 rfl ?_
  refine mJ_get dX8_anchor_54 f_X8_7 rfl rfl ?_
  refine mJ_bipush (v := 9) dX8_anchor_57 rfl ?_
  refine mJ_ialdN dX8_anchor_59 rfl (j := 9) ⟨rfl, by decide, by decide⟩ ?_
  refine mJ_istore dX8_anchor_60 (Nat.le_of_ble_eq_true rfl) (ls2 := [_, _, _, _, _, _]) rfl ?_
  refine mJ_iload dX8_anchor_62 rfl ?_
  refine mJ_bipush (v := 10) dX8_anchor_64 rfl ?_
  refine mJ_icmp_ne 73 dX8_anchor_66 rfl (fun c_66 => False.elim (by exact c_66 hA)) (fun c_66 => ?_)
  refine mJ_sipush (v := (-10003)) dX8_anchor_69 rfl ?_
  exact mJ_iret dX8_anchor_72 rfl (rfl) (rfl)
set_option maxHeartbeats 4000000 in
set_option maxRecDepth 100000 in
theorem C_X8_anchor {d was text ord why son tri : aF} {typ at_ sig fst snd rea lef top shf arr goo shn trs : Int32} {nA : Nat} {x y w h : Int32} {n : Nat} (hn : n ≤ 5) (h1 : q_rg x (-1000) 1000) (h2 : q_rg y (-1000) 1000) (h3 : q_rg w 1 200) (h4 : q_rg h 1 200) (hA : d 9 = nI nA) (hl : nA < 10) : mCt k_X8_anchor [.ref 0, .int x, .int y, .int w, .int h] (mH d was (nI n) text typ at_ sig fst snd rea lef top shf arr goo ord why son shn tri trs) (some (.int (nI nA))) (mH (upd (upd (upd (upd (upd d (10 + nA) x) (20 + nA) y) (30 + nA) w) (40 + nA) h) 9 (nI (nA + 1))) (mR was d n) (nI (mN n)) text typ at_ sig fst snd rea lef top shf arr goo ord why son shn tri trs) := by
  refine mCt_intro (plainFor_of_name rfl) (Nat.le_of_ble_eq_true rfl) (m_all rfl) (ls := [_, _, _, _, _, _]) rfl ?_
  refine mJ_iload_n dX8_anchor_0 rfl ?_
  refine mJ_sipush (v := (-1000)) dX8_anchor_1 rfl ?_
  refine mJ_sipush (v := 1000) dX8_anchor_4 rfl ?_
  refine mJ_cS3i dX8_anchor_7 e_X8_in n_X8_32 ⟨Nat.le_of_ble_eq_true rfl, Nat.le_of_ble_eq_true rfl⟩ (Nat.le_of_ble_eq_true rfl) (C_X8_in) ?_
  refine mJ_top (b2i_t h1) ?_
  refine mJ_if_eq 49 dX8_anchor_10 rfl (fun c => absurd c (by decide)) (fun _ => ?_)
  refine mJ_iload_n dX8_anchor_13 rfl ?_
  refine mJ_sipush (v := (-1000)) dX8_anchor_14 rfl ?_
  refine mJ_sipush (v := 1000) dX8_anchor_17 rfl ?_
  refine mJ_cS3i dX8_anchor_20 e_X8_in n_X8_32 ⟨Nat.le_of_ble_eq_true rfl, Nat.le_of_ble_eq_true rfl⟩ (Nat.le_of_ble_eq_true rfl) (C_X8_in) ?_
  refine mJ_top (b2i_t h2) ?_
  refine mJ_if_eq 49 dX8_anchor_23 rfl (fun c => absurd c (by decide)) (fun _ => ?_)
  refine mJ_iload_n dX8_anchor_26 rfl ?_
  refine mJ_iconst (v := 1) dX8_anchor_27 rfl ?_
  refine mJ_sipush (v := 200) dX8_anchor_28 rfl ?_
  refine mJ_cS3i dX8_anchor_31 e_X8_in n_X8_32 ⟨Nat.le_of_ble_eq_true rfl, Nat.le_of_ble_eq_true rfl⟩ (Nat.le_of_ble_eq_true rfl) (C_X8_in) ?_
  refine mJ_top (b2i_t h3) ?_
  refine mJ_if_eq 49 dX8_anchor_34 rfl (fun c => absurd c (by decide)) (fun _ => ?_)
  refine mJ_iload dX8_anchor_37 rfl ?_
  refine mJ_iconst (v := 1) dX8_anchor_39 rfl ?_
  refine mJ_sipush (v := 200) dX8_anchor_40 rfl ?_
  refine mJ_cS3i dX8_anchor_43 e_X8_in n_X8_32 ⟨Nat.le_of_ble_eq_true rfl, Nat.le_of_ble_eq_true rfl⟩ (Nat.le_of_ble_eq_true rfl) (C_X8_in) ?_
  refine mJ_top (b2i_t h4) ?_
  refine mJ_if_ne 53 dX8_anchor_46 rfl (fun _ => ?_) (fun c => absurd c (by decide))
  refine mJ_aload_n dX8_anchor_53 rfl ?_
  refine mJ_get dX8_anchor_54 f_X8_7 rfl rfl ?_
  refine mJ_bipush (v := 9) dX8_anchor_57 rfl ?_
  refine mJ_ialdN dX8_anchor_59 rfl (j := 9) ⟨rfl, by decide, by decide⟩ ?_
  refine mJ_top hA ?_
  refine mJ_istore dX8_anchor_60 (Nat.le_of_ble_eq_true rfl) (ls2 := [_, _, _, _, _, _]) rfl ?_
  refine mJ_iload dX8_anchor_62 rfl ?_
  refine mJ_bipush (v := 10) dX8_anchor_64 rfl ?_
  refine mJ_icmp_ne 73 dX8_anchor_66 rfl (fun c_66 => ?_) (fun c_66 => False.elim (by exact absurd ((nI_eq (b := 10) (by omega) (by omega)).mp c_66) (by omega)))
  refine mJ_aload_n dX8_anchor_73 rfl ?_
  refine mJ_cV0v dX8_anchor_74 e_X8_records n_X8_115 ⟨Nat.le_of_ble_eq_true rfl, Nat.le_of_ble_eq_true rfl⟩ rfl rfl (Nat.le_of_ble_eq_true rfl) (C_X8_records hn) ?_
  refine mJ_aload_n dX8_anchor_77 rfl ?_
  refine mJ_get dX8_anchor_78 f_X8_7 rfl rfl ?_
  refine mJ_bipush (v := 10) dX8_anchor_81 rfl ?_
  refine mJ_iload dX8_anchor_83 rfl ?_
  refine mJ_iadd dX8_anchor_85 ?_
  refine mJ_iload_n dX8_anchor_86 rfl ?_
  refine mJ_iastN dX8_anchor_87 rfl (j := 10 + nA) ⟨by simp only [← nI_add]; rfl, by omega, by decide⟩ (h2 := mH _ _ _ _ _ _ _ _ _ _ _ _ _ _ _ _ _ _ _ _ _) rfl ?_
  refine mJ_aload_n dX8_anchor_88 rfl ?_
  refine mJ_get dX8_anchor_89 f_X8_7 rfl rfl ?_
  refine mJ_bipush (v := 20) dX8_anchor_92 rfl ?_
  refine mJ_iload dX8_anchor_94 rfl ?_
  refine mJ_iadd dX8_anchor_96 ?_
  refine mJ_iload_n dX8_anchor_97 rfl ?_
  refine mJ_iastN dX8_anchor_98 rfl (j := 20 + nA) ⟨by simp only [← nI_add]; rfl, by omega, by decide⟩ (h2 := mH _ _ _ _ _ _ _ _ _ _ _ _ _ _ _ _ _ _ _ _ _) rfl ?_
  refine mJ_aload_n dX8_anchor_99 rfl ?_
  refine mJ_get dX8_anchor_100 f_X8_7 rfl rfl ?_
  refine mJ_bipush (v := 30) dX8_anchor_103 rfl ?_
  refine mJ_iload dX8_anchor_105 rfl ?_
  refine mJ_iadd dX8_anchor_107 ?_
  refine mJ_iload_n dX8_anchor_108 rfl ?_
  refine mJ_iastN dX8_anchor_109 rfl (j := 30 + nA) ⟨by simp only [← nI_add]; rfl, by omega, by decide⟩ (h2 := mH _ _ _ _ _ _ _ _ _ _ _ _ _ _ _ _ _ _ _ _ _) rfl ?_
  refine mJ_aload_n dX8_anchor_110 rfl ?_
  refine mJ_get dX8_anchor_111 f_X8_7 rfl rfl ?_
  refine mJ_bipush (v := 40) dX8_anchor_114 rfl ?_
  refine mJ_iload dX8_anchor_116 rfl ?_
  refine mJ_iadd dX8_anchor_118 ?_
  refine mJ_iload dX8_anchor_119 rfl ?_
  refine mJ_iastN dX8_anchor_121 rfl (j := 40 + nA) ⟨by simp only [← nI_add]; rfl, by omega, by decide⟩ (h2 := mH _ _ _ _ _ _ _ _ _ _ _ _ _ _ _ _ _ _ _ _ _) rfl ?_
  refine mJ_aload_n dX8_anchor_122 rfl ?_
  refine mJ_get dX8_anchor_123 f_X8_7 rfl rfl ?_
  refine mJ_bipush (v := 9) dX8_anchor_126 rfl ?_
  refine mJ_dup2 dX8_anchor_128 rfl rfl ?_
  refine mJ_ialdN dX8_anchor_129 rfl (j := 9) ⟨rfl, by decide, by decide⟩ ?_
  refine mJ_top (show upd (upd (upd (upd d (10 + nA) x) (20 + nA) y) (30 + nA) w) (40 + nA) h 9 = nI nA by rw [upd_ne (by omega), upd_ne (by omega), upd_ne (by omega), upd_ne (by omega), hA]) ?_
  refine mJ_iconst (v := 1) dX8_anchor_130 rfl ?_
  refine mJ_iadd dX8_anchor_131 ?_
  refine mJ_top (nI_1 nA) ?_
  refine mJ_iastN dX8_anchor_132 rfl (j := 9) ⟨rfl, by decide, by decide⟩ (h2 := mH _ _ _ _ _ _ _ _ _ _ _ _ _ _ _ _ _ _ _ _ _) rfl ?_
  refine mJ_iload dX8_anchor_133 rfl ?_
  exact mJ_iret dX8_anchor_135 rfl (rfl) (rfl)
set_option maxHeartbeats 4000000 in
set_option maxRecDepth 100000 in
theorem C_X8_moveAnchor_bad {d was text ord why son tri : aF} {sta typ at_ sig fst snd rea lef top shf arr goo shn trs : Int32} {v x y : Int32} (hb : ¬ (q_rg v 0 (d 9 - 1) ∧ q_rg x (-1000) 1000 ∧ q_rg y (-1000) 1000)) : mCt k_X8_moveAnchor [.ref 0, .int v, .int x, .int y] (mH d was sta text typ at_ sig fst snd rea lef top shf arr goo ord why son shn tri trs) (some (.int (-10001))) (mH d was sta text typ at_ sig fst snd rea lef top shf arr goo ord why son shn tri trs) := by
  refine mCt_intro (plainFor_of_name rfl) (Nat.le_of_ble_eq_true rfl) (m_all rfl) (ls := [_, _, _, _]) rfl ?_
  refine mJ_aload_n dX8_moveAnchor_0 rfl ?_
  refine mJ_iload_n dX8_moveAnchor_1 rfl ?_
  refine mJ_cV1i dX8_moveAnchor_2 e_X8_isAnchor n_X8_125 ⟨Nat.le_of_ble_eq_true rfl, Nat.le_of_ble_eq_true rfl⟩ rfl rfl (Nat.le_of_ble_eq_true rfl) (C_X8_isAnchor) ?_
  refine mJ_b2i (fun b_2 => ?_) (fun b_2 => ?_)
  · refine mJ_if_eq 34 dX8_moveAnchor_5 rfl (fun c => absurd c (by decide)) (fun _ => ?_)
    refine mJ_iload_n dX8_moveAnchor_8 rfl ?_
    refine mJ_sipush (v := (-1000)) dX8_moveAnchor_9 rfl ?_
    refine mJ_sipush (v := 1000) dX8_moveAnchor_12 rfl ?_
    refine mJ_cS3i dX8_moveAnchor_15 e_X8_in n_X8_32 ⟨Nat.le_of_ble_eq_true rfl, Nat.le_of_ble_eq_true rfl⟩ (Nat.le_of_ble_eq_true rfl) (C_X8_in) ?_
    refine mJ_b2i (fun b_15 => ?_) (fun b_15 => ?_)
    · refine mJ_if_eq 34 dX8_moveAnchor_18 rfl (fun c => absurd c (by decide)) (fun _ => ?_)
      refine mJ_iload_n dX8_moveAnchor_21 rfl ?_
      refine mJ_sipush (v := (-1000)) dX8_moveAnchor_22 rfl ?_
      refine mJ_sipush (v := 1000) dX8_moveAnchor_25 rfl ?_
      refine mJ_cS3i dX8_moveAnchor_28 e_X8_in n_X8_32 ⟨Nat.le_of_ble_eq_true rfl, Nat.le_of_ble_eq_true rfl⟩ (Nat.le_of_ble_eq_true rfl) (C_X8_in) ?_
      refine mJ_b2i (fun b_28 => ?_) (fun b_28 => ?_)
      · exact False.elim (by exact hb ⟨b_2, b_15, b_28⟩)
      · refine mJ_if_ne 38 dX8_moveAnchor_31 rfl (fun c => absurd c (by decide)) (fun _ => ?_)
        refine mJ_sipush (v := (-10001)) dX8_moveAnchor_34 rfl ?_
        exact mJ_iret dX8_moveAnchor_37 rfl (rfl) (rfl)
    · refine mJ_if_eq 34 dX8_moveAnchor_18 rfl (fun _ => ?_) (fun c => absurd c (by decide))
      refine mJ_sipush (v := (-10001)) dX8_moveAnchor_34 rfl ?_
      exact mJ_iret dX8_moveAnchor_37 rfl (rfl) (rfl)
  · refine mJ_if_eq 34 dX8_moveAnchor_5 rfl (fun _ => ?_) (fun c => absurd c (by decide))
    refine mJ_sipush (v := (-10001)) dX8_moveAnchor_34 rfl ?_
    exact mJ_iret dX8_moveAnchor_37 rfl (rfl) (rfl)
set_option maxHeartbeats 4000000 in
set_option maxRecDepth 100000 in
theorem C_X8_moveAnchor {d was text ord why son tri : aF} {typ at_ sig fst snd rea lef top shf arr goo shn trs : Int32} {nA nH nO : Nat} {x y : Int32} {a : Nat} {n : Nat} (hn : n ≤ 5) (ha : a < 10) (h1 : q_rg (nI a) 0 (d 9 - 1)) (h2 : q_rg x (-1000) 1000) (h3 : q_rg y (-1000) 1000) (hw' : wD (upd (upd d (10 + a) x) (20 + a) y) nA nH nO) (hi' : wI (upd (upd d (10 + a) x) (20 + a) y) nO) : ∃ (lef' top' shf' arr' goo' : Int32) (ord' why' son' tri' : aF) (trs' : Int32), mCt k_X8_moveAnchor [.ref 0, .int (nI a), .int x, .int y] (mH d was (nI n) text typ at_ sig fst snd rea lef top shf arr goo ord why son shn tri trs) (some (.int (p_all (upd (upd d (10 + a) x) (20 + a) y) nA nH nO).2.2)) (mH (upd (upd d (10 + a) x) (20 + a) y) (mR was d n) (nI (mN n)) text typ at_ sig fst snd rea (lef') (top') (shf') (arr') (goo') (ord') (why') (son') ((p_all (upd (upd d (10 + a) x) (20 + a) y) nA nH nO).2.2) (tri') (trs')) := by
  obtain ⟨l1, t1, s1, a1, o1, d1, y1, n1, r1, z1, hj⟩ := C_X8_many (d := upd (upd d (10 + a) x) (20 + a) y) (was := mR was d n) (sta := nI (mN n)) (shn := shn) (text := text) (typ := typ) (at_ := at_) (sig := sig) (fst := fst) (snd := snd) (rea := rea) (lef := lef) (top := top) (shf := shf) (arr := arr) (goo := goo) (ord := ord) (why := why) (son := son) (tri := tri) (trs := trs) hw' hi'
  refine ⟨l1, t1, s1, a1, o1, d1, y1, n1, r1, z1, ?_⟩
  refine mCt_intro (plainFor_of_name rfl) (Nat.le_of_ble_eq_true rfl) (m_all rfl) (ls := [_, _, _, _]) rfl ?_
  refine mJ_aload_n dX8_moveAnchor_0 rfl ?_
  refine mJ_iload_n dX8_moveAnchor_1 rfl ?_
  refine mJ_cV1i dX8_moveAnchor_2 e_X8_isAnchor n_X8_125 ⟨Nat.le_of_ble_eq_true rfl, Nat.le_of_ble_eq_true rfl⟩ rfl rfl (Nat.le_of_ble_eq_true rfl) (C_X8_isAnchor) ?_
  refine mJ_top (b2i_t h1) ?_
  refine mJ_if_eq 34 dX8_moveAnchor_5 rfl (fun c => absurd c (by decide)) (fun _ => ?_)
  refine mJ_iload_n dX8_moveAnchor_8 rfl ?_
  refine mJ_sipush (v := (-1000)) dX8_moveAnchor_9 rfl ?_
  refine mJ_sipush (v := 1000) dX8_moveAnchor_12 rfl ?_
  refine mJ_cS3i dX8_moveAnchor_15 e_X8_in n_X8_32 ⟨Nat.le_of_ble_eq_true rfl, Nat.le_of_ble_eq_true rfl⟩ (Nat.le_of_ble_eq_true rfl) (C_X8_in) ?_
  refine mJ_top (b2i_t h2) ?_
  refine mJ_if_eq 34 dX8_moveAnchor_18 rfl (fun c => absurd c (by decide)) (fun _ => ?_)
  refine mJ_iload_n dX8_moveAnchor_21 rfl ?_
  refine mJ_sipush (v := (-1000)) dX8_moveAnchor_22 rfl ?_
  refine mJ_sipush (v := 1000) dX8_moveAnchor_25 rfl ?_
  refine mJ_cS3i dX8_moveAnchor_28 e_X8_in n_X8_32 ⟨Nat.le_of_ble_eq_true rfl, Nat.le_of_ble_eq_true rfl⟩ (Nat.le_of_ble_eq_true rfl) (C_X8_in) ?_
  refine mJ_top (b2i_t h3) ?_
  refine mJ_if_ne 38 dX8_moveAnchor_31 rfl (fun _ => ?_) (fun c => absurd c (by decide))
  refine mJ_aload_n dX8_moveAnchor_38 rfl ?_
  refine mJ_cV0v dX8_moveAnchor_39 e_X8_records n_X8_115 ⟨Nat.le_of_ble_eq_true rfl, Nat.le_of_ble_eq_true rfl⟩ rfl rfl (Nat.le_of_ble_eq_true rfl) (C_X8_records hn) ?_
  refine mJ_aload_n dX8_moveAnchor_42 rfl ?_
  refine mJ_get dX8_moveAnchor_43 f_X8_7 rfl rfl ?_
  refine mJ_bipush (v := 10) dX8_moveAnchor_46 rfl ?_
  refine mJ_iload_n dX8_moveAnchor_48 rfl ?_
  refine mJ_iadd dX8_moveAnchor_49 ?_
  refine mJ_iload_n dX8_moveAnchor_50 rfl ?_
  refine mJ_iastN dX8_moveAnchor_51 rfl (j := 10 + a) ⟨by simp only [← nI_add]; rfl, by omega, by decide⟩ (h2 := mH _ _ _ _ _ _ _ _ _ _ _ _ _ _ _ _ _ _ _ _ _) rfl ?_
  refine mJ_aload_n dX8_moveAnchor_52 rfl ?_
  refine mJ_get dX8_moveAnchor_53 f_X8_7 rfl rfl ?_
  refine mJ_bipush (v := 20) dX8_moveAnchor_56 rfl ?_
  refine mJ_iload_n dX8_moveAnchor_58 rfl ?_
  refine mJ_iadd dX8_moveAnchor_59 ?_
  refine mJ_iload_n dX8_moveAnchor_60 rfl ?_
  refine mJ_iastN dX8_moveAnchor_61 rfl (j := 20 + a) ⟨by simp only [← nI_add]; rfl, by omega, by decide⟩ (h2 := mH _ _ _ _ _ _ _ _ _ _ _ _ _ _ _ _ _ _ _ _ _) rfl ?_
  refine mJ_aload_n dX8_moveAnchor_62 rfl ?_
  refine mJ_cV0i dX8_moveAnchor_63 e_X8_many n_X8_118 ⟨Nat.le_of_ble_eq_true rfl, Nat.le_of_ble_eq_true rfl⟩ rfl rfl (Nat.le_of_ble_eq_true rfl) (hj) ?_
  exact mJ_iret dX8_moveAnchor_66 rfl (rfl) (rfl)
set_option maxHeartbeats 4000000 in
set_option maxRecDepth 100000 in
theorem C_X8_isSetting {d was text ord why son tri : aF} {sta typ at_ sig fst snd rea lef top shf arr goo shn trs : Int32} {w v : Int32} : mCt k_X8_isSetting [.int w, .int v] (mH d was sta text typ at_ sig fst snd rea lef top shf arr goo ord why son shn tri trs) (some (.int (b2i (q_st w v)))) (mH d was sta text typ at_ sig fst snd rea lef top shf arr goo ord why son shn tri trs) := by
  refine mCt_intro (plainFor_of_name rfl) (Nat.le_of_ble_eq_true rfl) (m_all rfl) (ls := [_, _]) rfl ?_
  refine mJ_iload_n dX8_isSetting_0 rfl ?_
  refine mJ_case 0 (fun s_1_0 => ?_) (fun s_1_0 => ?_)
  · refine mJ_tin 36 dX8_isSetting_1 (by decide) (by decide) rfl rfl ?_
    refine mJ_iload_n dX8_isSetting_36 rfl ?_
    refine mJ_iconst (v := 0) dX8_isSetting_37 rfl ?_
    refine mJ_bipush (v := 30) dX8_isSetting_38 rfl ?_
    refine mJ_cS3i dX8_isSetting_40 e_X8_in n_X8_32 ⟨Nat.le_of_ble_eq_true rfl, Nat.le_of_ble_eq_true rfl⟩ (Nat.le_of_ble_eq_true rfl) (C_X8_in) ?_
    exact mJ_zret dX8_isSetting_43 rfl (b2i_01 _) (congrArg (fun z => some (Value.int z)) (b2i_eq ⟨fun z => by unfold q_st at z; rcases z with ⟨z, q⟩ | ⟨z, q⟩ | ⟨z, q⟩ | ⟨z, q⟩ | ⟨z, q⟩ <;> first | exact q | (rw [s_1_0] at z; exact absurd z (by decide)), fun q => Or.inl ⟨s_1_0, q⟩⟩)) (rfl)
  refine mJ_case 1 (fun s_1_1 => ?_) (fun s_1_1 => ?_)
  · refine mJ_tin 44 dX8_isSetting_1 (by decide) (by decide) rfl rfl ?_
    refine mJ_iload_n dX8_isSetting_44 rfl ?_
    refine mJ_iconst (v := 0) dX8_isSetting_45 rfl ?_
    refine mJ_bipush (v := 20) dX8_isSetting_46 rfl ?_
    refine mJ_cS3i dX8_isSetting_48 e_X8_in n_X8_32 ⟨Nat.le_of_ble_eq_true rfl, Nat.le_of_ble_eq_true rfl⟩ (Nat.le_of_ble_eq_true rfl) (C_X8_in) ?_
    exact mJ_zret dX8_isSetting_51 rfl (b2i_01 _) (congrArg (fun z => some (Value.int z)) (b2i_eq ⟨fun z => by unfold q_st at z; rcases z with ⟨z, q⟩ | ⟨z, q⟩ | ⟨z, q⟩ | ⟨z, q⟩ | ⟨z, q⟩ <;> first | exact q | (rw [s_1_1] at z; exact absurd z (by decide)), fun q => Or.inr (Or.inl ⟨s_1_1, q⟩)⟩)) (rfl)
  refine mJ_case 2 (fun s_1_2 => ?_) (fun s_1_2 => ?_)
  · refine mJ_tin 52 dX8_isSetting_1 (by decide) (by decide) rfl rfl ?_
    refine mJ_iload_n dX8_isSetting_52 rfl ?_
    refine mJ_iconst (v := 1) dX8_isSetting_53 rfl ?_
    refine mJ_bipush (v := 6) dX8_isSetting_54 rfl ?_
    refine mJ_cS3i dX8_isSetting_56 e_X8_in n_X8_32 ⟨Nat.le_of_ble_eq_true rfl, Nat.le_of_ble_eq_true rfl⟩ (Nat.le_of_ble_eq_true rfl) (C_X8_in) ?_
    exact mJ_zret dX8_isSetting_59 rfl (b2i_01 _) (congrArg (fun z => some (Value.int z)) (b2i_eq ⟨fun z => by unfold q_st at z; rcases z with ⟨z, q⟩ | ⟨z, q⟩ | ⟨z, q⟩ | ⟨z, q⟩ | ⟨z, q⟩ <;> first | exact q | (rw [s_1_2] at z; exact absurd z (by decide)), fun q => Or.inr (Or.inr (Or.inl ⟨s_1_2, q⟩))⟩)) (rfl)
  refine mJ_case 3 (fun s_1_3 => ?_) (fun s_1_3 => ?_)
  · refine mJ_tin 60 dX8_isSetting_1 (by decide) (by decide) rfl rfl ?_
    refine mJ_iload_n dX8_isSetting_60 rfl ?_
    refine mJ_iconst (v := 0) dX8_isSetting_61 rfl ?_
    refine mJ_iconst (v := 1) dX8_isSetting_62 rfl ?_
    refine mJ_cS3i dX8_isSetting_63 e_X8_in n_X8_32 ⟨Nat.le_of_ble_eq_true rfl, Nat.le_of_ble_eq_true rfl⟩ (Nat.le_of_ble_eq_true rfl) (C_X8_in) ?_
    exact mJ_zret dX8_isSetting_66 rfl (b2i_01 _) (congrArg (fun z => some (Value.int z)) (b2i_eq ⟨fun z => by unfold q_st at z; rcases z with ⟨z, q⟩ | ⟨z, q⟩ | ⟨z, q⟩ | ⟨z, q⟩ | ⟨z, q⟩ <;> first | exact q | (rw [s_1_3] at z; exact absurd z (by decide)), fun q => Or.inr (Or.inr (Or.inr (Or.inl ⟨s_1_3, q⟩)))⟩)) (rfl)
  refine mJ_case 4 (fun s_1_4 => ?_) (fun s_1_4 => ?_)
  · refine mJ_tin 60 dX8_isSetting_1 (by decide) (by decide) rfl rfl ?_
    refine mJ_iload_n dX8_isSetting_60 rfl ?_
    refine mJ_iconst (v := 0) dX8_isSetting_61 rfl ?_
    refine mJ_iconst (v := 1) dX8_isSetting_62 rfl ?_
    refine mJ_cS3i dX8_isSetting_63 e_X8_in n_X8_32 ⟨Nat.le_of_ble_eq_true rfl, Nat.le_of_ble_eq_true rfl⟩ (Nat.le_of_ble_eq_true rfl) (C_X8_in) ?_
    exact mJ_zret dX8_isSetting_66 rfl (b2i_01 _) (congrArg (fun z => some (Value.int z)) (b2i_eq ⟨fun z => by unfold q_st at z; rcases z with ⟨z, q⟩ | ⟨z, q⟩ | ⟨z, q⟩ | ⟨z, q⟩ | ⟨z, q⟩ <;> first | exact q | (rw [s_1_4] at z; exact absurd z (by decide)), fun q => Or.inr (Or.inr (Or.inr (Or.inr (⟨s_1_4, q⟩))))⟩)) (rfl)
  refine mJ_tout 67 dX8_isSetting_1 (m_out (fun z z1 z2 z3 => ?_)) rfl ?_
  · rcases (show z = 0 ∨ z = 1 ∨ z = 2 ∨ z = 3 ∨ z = 4 by omega) with rfl | rfl | rfl | rfl | rfl
    · exact s_1_0 (Int32.toInt_inj.mp z3)
    · exact s_1_1 (Int32.toInt_inj.mp z3)
    · exact s_1_2 (Int32.toInt_inj.mp z3)
    · exact s_1_3 (Int32.toInt_inj.mp z3)
    · exact s_1_4 (Int32.toInt_inj.mp z3)
  · refine mJ_iconst (v := 0) dX8_isSetting_67 rfl ?_
    exact mJ_zret dX8_isSetting_68 rfl (Or.inl rfl) (z_f (fun z => by unfold q_st at z; rcases z with ⟨z, _⟩ | ⟨z, _⟩ | ⟨z, _⟩ | ⟨z, _⟩ | ⟨z, _⟩ <;> contradiction)) (rfl)
set_option maxHeartbeats 4000000 in
set_option maxRecDepth 100000 in
theorem C_X8_isOf {d was text ord why son tri : aF} {sta typ at_ sig fst snd rea lef top shf arr goo shn trs : Int32} {w v : Int32} : mCt k_X8_isOf [.ref 0, .int w, .int v] (mH d was sta text typ at_ sig fst snd rea lef top shf arr goo ord why son shn tri trs) (some (.int (b2i (q_of d w v)))) (mH d was sta text typ at_ sig fst snd rea lef top shf arr goo ord why son shn tri trs) := by
  refine mCt_intro (plainFor_of_name rfl) (Nat.le_of_ble_eq_true rfl) (m_all rfl) (ls := [_, _, _]) rfl ?_
  refine mJ_iload_n dX8_isOf_0 rfl ?_
  refine mJ_case 0 (fun s_1_0 => ?_) (fun s_1_0 => ?_)
  · refine mJ_tin 48 dX8_isOf_1 (by decide) (by decide) rfl rfl ?_
    refine mJ_aload_n dX8_isOf_48 rfl ?_
    refine mJ_iload_n dX8_isOf_49 rfl ?_
    refine mJ_cV1i dX8_isOf_50 e_X8_isAnchor n_X8_125 ⟨Nat.le_of_ble_eq_true rfl, Nat.le_of_ble_eq_true rfl⟩ rfl rfl (Nat.le_of_ble_eq_true rfl) (C_X8_isAnchor) ?_
    exact mJ_zret dX8_isOf_53 rfl (b2i_01 _) (congrArg (fun z => some (Value.int z)) (b2i_eq ⟨fun z => by unfold q_of at z; rcases z with ⟨z, q⟩ | ⟨z, q⟩ | ⟨z, q⟩ | ⟨z, q⟩ | ⟨z, q⟩ | ⟨z, q⟩ | ⟨z, q⟩ | ⟨z, q⟩ <;> first | exact q | (rw [s_1_0] at z; exact absurd z (by decide)), fun q => Or.inl ⟨s_1_0, q⟩⟩)) (rfl)
  refine mJ_case 1 (fun s_1_1 => ?_) (fun s_1_1 => ?_)
  · refine mJ_tin 54 dX8_isOf_1 (by decide) (by decide) rfl rfl ?_
    refine mJ_iload_n dX8_isOf_54 rfl ?_
    refine mJ_iconst (v := 1) dX8_isOf_55 rfl ?_
    refine mJ_sipush (v := 200) dX8_isOf_56 rfl ?_
    refine mJ_cS3i dX8_isOf_59 e_X8_in n_X8_32 ⟨Nat.le_of_ble_eq_true rfl, Nat.le_of_ble_eq_true rfl⟩ (Nat.le_of_ble_eq_true rfl) (C_X8_in) ?_
    exact mJ_zret dX8_isOf_62 rfl (b2i_01 _) (congrArg (fun z => some (Value.int z)) (b2i_eq ⟨fun z => by unfold q_of at z; rcases z with ⟨z, q⟩ | ⟨z, q⟩ | ⟨z, q⟩ | ⟨z, q⟩ | ⟨z, q⟩ | ⟨z, q⟩ | ⟨z, q⟩ | ⟨z, q⟩ <;> first | exact q | (rw [s_1_1] at z; exact absurd z (by decide)), fun q => Or.inr (Or.inl ⟨s_1_1, q⟩)⟩)) (rfl)
  refine mJ_case 2 (fun s_1_2 => ?_) (fun s_1_2 => ?_)
  · refine mJ_tin 54 dX8_isOf_1 (by decide) (by decide) rfl rfl ?_
    refine mJ_iload_n dX8_isOf_54 rfl ?_
    refine mJ_iconst (v := 1) dX8_isOf_55 rfl ?_
    refine mJ_sipush (v := 200) dX8_isOf_56 rfl ?_
    refine mJ_cS3i dX8_isOf_59 e_X8_in n_X8_32 ⟨Nat.le_of_ble_eq_true rfl, Nat.le_of_ble_eq_true rfl⟩ (Nat.le_of_ble_eq_true rfl) (C_X8_in) ?_
    exact mJ_zret dX8_isOf_62 rfl (b2i_01 _) (congrArg (fun z => some (Value.int z)) (b2i_eq ⟨fun z => by unfold q_of at z; rcases z with ⟨z, q⟩ | ⟨z, q⟩ | ⟨z, q⟩ | ⟨z, q⟩ | ⟨z, q⟩ | ⟨z, q⟩ | ⟨z, q⟩ | ⟨z, q⟩ <;> first | exact q | (rw [s_1_2] at z; exact absurd z (by decide)), fun q => Or.inr (Or.inr (Or.inl ⟨s_1_2, q⟩))⟩)) (rfl)
  refine mJ_case 3 (fun s_1_3 => ?_) (fun s_1_3 => ?_)
  · refine mJ_tin 63 dX8_isOf_1 (by decide) (by decide) rfl rfl ?_
    refine mJ_iload_n dX8_isOf_63 rfl ?_
    refine mJ_iconst (v := 0) dX8_isOf_64 rfl ?_
    refine mJ_iconst (v := 3) dX8_isOf_65 rfl ?_
    refine mJ_cS3i dX8_isOf_66 e_X8_in n_X8_32 ⟨Nat.le_of_ble_eq_true rfl, Nat.le_of_ble_eq_true rfl⟩ (Nat.le_of_ble_eq_true rfl) (C_X8_in) ?_
    exact mJ_zret dX8_isOf_69 rfl (b2i_01 _) (congrArg (fun z => some (Value.int z)) (b2i_eq ⟨fun z => by unfold q_of at z; rcases z with ⟨z, q⟩ | ⟨z, q⟩ | ⟨z, q⟩ | ⟨z, q⟩ | ⟨z, q⟩ | ⟨z, q⟩ | ⟨z, q⟩ | ⟨z, q⟩ <;> first | exact q | (rw [s_1_3] at z; exact absurd z (by decide)), fun q => Or.inr (Or.inr (Or.inr (Or.inl ⟨s_1_3, q⟩)))⟩)) (rfl)
  refine mJ_case 4 (fun s_1_4 => ?_) (fun s_1_4 => ?_)
  · refine mJ_tin 70 dX8_isOf_1 (by decide) (by decide) rfl rfl ?_
    refine mJ_iload_n dX8_isOf_70 rfl ?_
    refine mJ_iconst (v := 0) dX8_isOf_71 rfl ?_
    refine mJ_iconst (v := 2) dX8_isOf_72 rfl ?_
    refine mJ_cS3i dX8_isOf_73 e_X8_in n_X8_32 ⟨Nat.le_of_ble_eq_true rfl, Nat.le_of_ble_eq_true rfl⟩ (Nat.le_of_ble_eq_true rfl) (C_X8_in) ?_
    exact mJ_zret dX8_isOf_76 rfl (b2i_01 _) (congrArg (fun z => some (Value.int z)) (b2i_eq ⟨fun z => by unfold q_of at z; rcases z with ⟨z, q⟩ | ⟨z, q⟩ | ⟨z, q⟩ | ⟨z, q⟩ | ⟨z, q⟩ | ⟨z, q⟩ | ⟨z, q⟩ | ⟨z, q⟩ <;> first | exact q | (rw [s_1_4] at z; exact absurd z (by decide)), fun q => Or.inr (Or.inr (Or.inr (Or.inr (Or.inl ⟨s_1_4, q⟩))))⟩)) (rfl)
  refine mJ_case 5 (fun s_1_5 => ?_) (fun s_1_5 => ?_)
  · refine mJ_tin 70 dX8_isOf_1 (by decide) (by decide) rfl rfl ?_
    refine mJ_iload_n dX8_isOf_70 rfl ?_
    refine mJ_iconst (v := 0) dX8_isOf_71 rfl ?_
    refine mJ_iconst (v := 2) dX8_isOf_72 rfl ?_
    refine mJ_cS3i dX8_isOf_73 e_X8_in n_X8_32 ⟨Nat.le_of_ble_eq_true rfl, Nat.le_of_ble_eq_true rfl⟩ (Nat.le_of_ble_eq_true rfl) (C_X8_in) ?_
    exact mJ_zret dX8_isOf_76 rfl (b2i_01 _) (congrArg (fun z => some (Value.int z)) (b2i_eq ⟨fun z => by unfold q_of at z; rcases z with ⟨z, q⟩ | ⟨z, q⟩ | ⟨z, q⟩ | ⟨z, q⟩ | ⟨z, q⟩ | ⟨z, q⟩ | ⟨z, q⟩ | ⟨z, q⟩ <;> first | exact q | (rw [s_1_5] at z; exact absurd z (by decide)), fun q => Or.inr (Or.inr (Or.inr (Or.inr (Or.inr (Or.inl ⟨s_1_5, q⟩)))))⟩)) (rfl)
  refine mJ_case 6 (fun s_1_6 => ?_) (fun s_1_6 => ?_)
  · refine mJ_tin 77 dX8_isOf_1 (by decide) (by decide) rfl rfl ?_
    refine mJ_iload_n dX8_isOf_77 rfl ?_
    refine mJ_iconst (v := 0) dX8_isOf_78 rfl ?_
    refine mJ_iconst (v := 1) dX8_isOf_79 rfl ?_
    refine mJ_cS3i dX8_isOf_80 e_X8_in n_X8_32 ⟨Nat.le_of_ble_eq_true rfl, Nat.le_of_ble_eq_true rfl⟩ (Nat.le_of_ble_eq_true rfl) (C_X8_in) ?_
    exact mJ_zret dX8_isOf_83 rfl (b2i_01 _) (congrArg (fun z => some (Value.int z)) (b2i_eq ⟨fun z => by unfold q_of at z; rcases z with ⟨z, q⟩ | ⟨z, q⟩ | ⟨z, q⟩ | ⟨z, q⟩ | ⟨z, q⟩ | ⟨z, q⟩ | ⟨z, q⟩ | ⟨z, q⟩ <;> first | exact q | (rw [s_1_6] at z; exact absurd z (by decide)), fun q => Or.inr (Or.inr (Or.inr (Or.inr (Or.inr (Or.inr (Or.inl ⟨s_1_6, q⟩))))))⟩)) (rfl)
  refine mJ_case 7 (fun s_1_7 => ?_) (fun s_1_7 => ?_)
  · refine mJ_tin 84 dX8_isOf_1 (by decide) (by decide) rfl rfl ?_
    refine mJ_iload_n dX8_isOf_84 rfl ?_
    refine mJ_iconst (v := 0) dX8_isOf_85 rfl ?_
    refine mJ_bipush (v := 9) dX8_isOf_86 rfl ?_
    refine mJ_cS3i dX8_isOf_88 e_X8_in n_X8_32 ⟨Nat.le_of_ble_eq_true rfl, Nat.le_of_ble_eq_true rfl⟩ (Nat.le_of_ble_eq_true rfl) (C_X8_in) ?_
    exact mJ_zret dX8_isOf_91 rfl (b2i_01 _) (congrArg (fun z => some (Value.int z)) (b2i_eq ⟨fun z => by unfold q_of at z; rcases z with ⟨z, q⟩ | ⟨z, q⟩ | ⟨z, q⟩ | ⟨z, q⟩ | ⟨z, q⟩ | ⟨z, q⟩ | ⟨z, q⟩ | ⟨z, q⟩ <;> first | exact q | (rw [s_1_7] at z; exact absurd z (by decide)), fun q => Or.inr (Or.inr (Or.inr (Or.inr (Or.inr (Or.inr (Or.inr (⟨s_1_7, q⟩)))))))⟩)) (rfl)
  refine mJ_tout 92 dX8_isOf_1 (m_out (fun z z1 z2 z3 => ?_)) rfl ?_
  · rcases (show z = 0 ∨ z = 1 ∨ z = 2 ∨ z = 3 ∨ z = 4 ∨ z = 5 ∨ z = 6 ∨ z = 7 by omega) with rfl | rfl | rfl | rfl | rfl | rfl | rfl | rfl
    · exact s_1_0 (Int32.toInt_inj.mp z3)
    · exact s_1_1 (Int32.toInt_inj.mp z3)
    · exact s_1_2 (Int32.toInt_inj.mp z3)
    · exact s_1_3 (Int32.toInt_inj.mp z3)
    · exact s_1_4 (Int32.toInt_inj.mp z3)
    · exact s_1_5 (Int32.toInt_inj.mp z3)
    · exact s_1_6 (Int32.toInt_inj.mp z3)
    · exact s_1_7 (Int32.toInt_inj.mp z3)
  · refine mJ_iconst (v := 0) dX8_isOf_92 rfl ?_
    exact mJ_zret dX8_isOf_93 rfl (Or.inl rfl) (z_f (fun z => by unfold q_of at z; rcases z with ⟨z, _⟩ | ⟨z, _⟩ | ⟨z, _⟩ | ⟨z, _⟩ | ⟨z, _⟩ | ⟨z, _⟩ | ⟨z, _⟩ | ⟨z, _⟩ <;> contradiction)) (rfl)
set_option maxHeartbeats 4000000 in
set_option maxRecDepth 100000 in
theorem C_X8_set_bad {d was text ord why son tri : aF} {sta typ at_ sig fst snd rea lef top shf arr goo shn trs : Int32} {w v : Int32} (hb : ¬ (q_st w v)) : mCt k_X8_set [.ref 0, .int w, .int v] (mH d was sta text typ at_ sig fst snd rea lef top shf arr goo ord why son shn tri trs) (some (.int (-10001))) (mH d was sta text typ at_ sig fst snd rea lef top shf arr goo ord why son shn tri trs) := by
  refine mCt_intro (plainFor_of_name rfl) (Nat.le_of_ble_eq_true rfl) (m_all rfl) (ls := [_, _, _, _]) rfl ?_
  refine mJ_iload_n dX8_set_0 rfl ?_
  refine mJ_iload_n dX8_set_1 rfl ?_
  refine mJ_cS2i dX8_set_2 e_X8_isSetting n_X8_128 ⟨Nat.le_of_ble_eq_true rfl, Nat.le_of_ble_eq_true rfl⟩ (Nat.le_of_ble_eq_true rfl) (C_X8_isSetting) ?_
  refine mJ_b2i (fun b_2 => ?_) (fun b_2 => ?_)
  · exact False.elim (by exact hb b_2)
  · refine mJ_if_ne 12 dX8_set_5 rfl (fun c => absurd c (by decide)) (fun _ => ?_)
    refine mJ_sipush (v := (-10001)) dX8_set_8 rfl ?_
    exact mJ_iret dX8_set_11 rfl (rfl) (rfl)
set_option maxHeartbeats 4000000 in
set_option maxRecDepth 100000 in
theorem C_X8_set {d was text ord why son tri : aF} {typ at_ sig fst snd rea lef top shf arr goo shn trs : Int32}  {v : Int32} {w : Nat} {n : Nat} (hn : n ≤ 5) (hw5 : w < 5) (h1 : q_st (nI w) v) : mCt k_X8_set [.ref 0, .int (nI w), .int v] (mH d was (nI n) text typ at_ sig fst snd rea lef top shf arr goo ord why son shn tri trs) (some (.int (d (4 + w)))) (mH (upd d (4 + w) v) (mR was d n) (nI (mN n)) text typ at_ sig fst snd rea lef top shf arr goo ord why son shn tri trs) := by
  refine mCt_intro (plainFor_of_name rfl) (Nat.le_of_ble_eq_true rfl) (m_all rfl) (ls := [_, _, _, _]) rfl ?_
  refine mJ_iload_n dX8_set_0 rfl ?_
  refine mJ_iload_n dX8_set_1 rfl ?_
  refine mJ_cS2i dX8_set_2 e_X8_isSetting n_X8_128 ⟨Nat.le_of_ble_eq_true rfl, Nat.le_of_ble_eq_true rfl⟩ (Nat.le_of_ble_eq_true rfl) (C_X8_isSetting) ?_
  refine mJ_top (b2i_t h1) ?_
  refine mJ_if_ne 12 dX8_set_5 rfl (fun _ => ?_) (fun c => absurd c (by decide))
  refine mJ_aload_n dX8_set_12 rfl ?_
  refine mJ_cV0v dX8_set_13 e_X8_records n_X8_115 ⟨Nat.le_of_ble_eq_true rfl, Nat.le_of_ble_eq_true rfl⟩ rfl rfl (Nat.le_of_ble_eq_true rfl) (C_X8_records hn) ?_
  refine mJ_aload_n dX8_set_16 rfl ?_
  refine mJ_get dX8_set_17 f_X8_7 rfl rfl ?_
  refine mJ_iconst (v := 4) dX8_set_20 rfl ?_
  refine mJ_iload_n dX8_set_21 rfl ?_
  refine mJ_iadd dX8_set_22 ?_
  refine mJ_ialdN dX8_set_23 rfl (j := 4 + w) ⟨by simp only [← nI_add]; rfl, by omega, by decide⟩ ?_
  refine mJ_istore_n dX8_set_24 (Nat.le_of_ble_eq_true rfl) (ls2 := [_, _, _, _]) rfl ?_
  refine mJ_aload_n dX8_set_25 rfl ?_
  refine mJ_get dX8_set_26 f_X8_7 rfl rfl ?_
  refine mJ_iconst (v := 4) dX8_set_29 rfl ?_
  refine mJ_iload_n dX8_set_30 rfl ?_
  refine mJ_iadd dX8_set_31 ?_
  refine mJ_iload_n dX8_set_32 rfl ?_
  refine mJ_iastN dX8_set_33 rfl (j := 4 + w) ⟨by simp only [← nI_add]; rfl, by omega, by decide⟩ (h2 := mH _ _ _ _ _ _ _ _ _ _ _ _ _ _ _ _ _ _ _ _ _) rfl ?_
  refine mJ_iload_n dX8_set_34 rfl ?_
  exact mJ_iret dX8_set_35 rfl (rfl) (rfl)
set_option maxHeartbeats 4000000 in
set_option maxRecDepth 100000 in
theorem C_X8_hint_bad {d was text ord why son tri : aF} {sta typ at_ sig fst snd rea lef top shf arr goo shn trs : Int32} {v w h s g : Int32} (hb : ¬ (q_rg v 0 (d 9 - 1) ∧ q_rg w 1 200 ∧ q_rg h 1 200 ∧ q_rg s 0 3 ∧ q_rg g 0 2)) : mCt k_X8_hint [.ref 0, .int v, .int w, .int h, .int s, .int g] (mH d was sta text typ at_ sig fst snd rea lef top shf arr goo ord why son shn tri trs) (some (.int (-10001))) (mH d was sta text typ at_ sig fst snd rea lef top shf arr goo ord why son shn tri trs) := by
  refine mCt_intro (plainFor_of_name rfl) (Nat.le_of_ble_eq_true rfl) (m_all rfl) (ls := [_, _, _, _, _, _, _, _]) rfl ?_
  refine mJ_aload_n dX8_hint_0 rfl ?_
  refine mJ_iload_n dX8_hint_1 rfl ?_
  refine mJ_cV1i dX8_hint_2 e_X8_isAnchor n_X8_125 ⟨Nat.le_of_ble_eq_true rfl, Nat.le_of_ble_eq_true rfl⟩ rfl rfl (Nat.le_of_ble_eq_true rfl) (C_X8_isAnchor) ?_
  refine mJ_b2i (fun b_2 => ?_) (fun b_2 => ?_)
  · refine mJ_if_eq 50 dX8_hint_5 rfl (fun c => absurd c (by decide)) (fun _ => ?_)
    refine mJ_iload_n dX8_hint_8 rfl ?_
    refine mJ_iconst (v := 1) dX8_hint_9 rfl ?_
    refine mJ_sipush (v := 200) dX8_hint_10 rfl ?_
    refine mJ_cS3i dX8_hint_13 e_X8_in n_X8_32 ⟨Nat.le_of_ble_eq_true rfl, Nat.le_of_ble_eq_true rfl⟩ (Nat.le_of_ble_eq_true rfl) (C_X8_in) ?_
    refine mJ_b2i (fun b_13 => ?_) (fun b_13 => ?_)
    · refine mJ_if_eq 50 dX8_hint_16 rfl (fun c => absurd c (by decide)) (fun _ => ?_)
      refine mJ_iload_n dX8_hint_19 rfl ?_
      refine mJ_iconst (v := 1) dX8_hint_20 rfl ?_
      refine mJ_sipush (v := 200) dX8_hint_21 rfl ?_
      refine mJ_cS3i dX8_hint_24 e_X8_in n_X8_32 ⟨Nat.le_of_ble_eq_true rfl, Nat.le_of_ble_eq_true rfl⟩ (Nat.le_of_ble_eq_true rfl) (C_X8_in) ?_
      refine mJ_b2i (fun b_24 => ?_) (fun b_24 => ?_)
      · refine mJ_if_eq 50 dX8_hint_27 rfl (fun c => absurd c (by decide)) (fun _ => ?_)
        refine mJ_iload dX8_hint_30 rfl ?_
        refine mJ_iconst (v := 0) dX8_hint_32 rfl ?_
        refine mJ_iconst (v := 3) dX8_hint_33 rfl ?_
        refine mJ_cS3i dX8_hint_34 e_X8_in n_X8_32 ⟨Nat.le_of_ble_eq_true rfl, Nat.le_of_ble_eq_true rfl⟩ (Nat.le_of_ble_eq_true rfl) (C_X8_in) ?_
        refine mJ_b2i (fun b_34 => ?_) (fun b_34 => ?_)
        · refine mJ_if_eq 50 dX8_hint_37 rfl (fun c => absurd c (by decide)) (fun _ => ?_)
          refine mJ_iload dX8_hint_40 rfl ?_
          refine mJ_iconst (v := 0) dX8_hint_42 rfl ?_
          refine mJ_iconst (v := 2) dX8_hint_43 rfl ?_
          refine mJ_cS3i dX8_hint_44 e_X8_in n_X8_32 ⟨Nat.le_of_ble_eq_true rfl, Nat.le_of_ble_eq_true rfl⟩ (Nat.le_of_ble_eq_true rfl) (C_X8_in) ?_
          refine mJ_b2i (fun b_44 => ?_) (fun b_44 => ?_)
          · exact False.elim (by exact hb ⟨b_2, b_13, b_24, b_34, b_44⟩)
          · refine mJ_if_ne 54 dX8_hint_47 rfl (fun c => absurd c (by decide)) (fun _ => ?_)
            refine mJ_sipush (v := (-10001)) dX8_hint_50 rfl ?_
            exact mJ_iret dX8_hint_53 rfl (rfl) (rfl)
        · refine mJ_if_eq 50 dX8_hint_37 rfl (fun _ => ?_) (fun c => absurd c (by decide))
          refine mJ_sipush (v := (-10001)) dX8_hint_50 rfl ?_
          exact mJ_iret dX8_hint_53 rfl (rfl) (rfl)
      · refine mJ_if_eq 50 dX8_hint_27 rfl (fun _ => ?_) (fun c => absurd c (by decide))
        refine mJ_sipush (v := (-10001)) dX8_hint_50 rfl ?_
        exact mJ_iret dX8_hint_53 rfl (rfl) (rfl)
    · refine mJ_if_eq 50 dX8_hint_16 rfl (fun _ => ?_) (fun c => absurd c (by decide))
      refine mJ_sipush (v := (-10001)) dX8_hint_50 rfl ?_
      exact mJ_iret dX8_hint_53 rfl (rfl) (rfl)
  · refine mJ_if_eq 50 dX8_hint_5 rfl (fun _ => ?_) (fun c => absurd c (by decide))
    refine mJ_sipush (v := (-10001)) dX8_hint_50 rfl ?_
    exact mJ_iret dX8_hint_53 rfl (rfl) (rfl)
set_option maxHeartbeats 4000000 in
set_option maxRecDepth 100000 in
theorem C_X8_hint_lim {d was text ord why son tri : aF} {sta typ at_ sig fst snd rea lef top shf arr goo shn trs : Int32}  {v w h s g : Int32} (h1 : q_rg v 0 (d 9 - 1)) (h2 : q_rg w 1 200) (h3 : q_rg h 1 200) (h4 : q_rg s 0 3) (h5 : q_rg g 0 2) (hH : d 50 = nI 12) : mCt k_X8_hint [.ref 0, .int v, .int w, .int h, .int s, .int g] (mH d was sta text typ at_ sig fst snd rea lef top shf arr goo ord why son shn tri trs) (some (.int (-10003))) (mH (d) (was) (sta) text typ at_ sig fst snd rea lef top shf arr goo ord why son shn tri trs) := by
  refine mCt_intro (plainFor_of_name rfl) (Nat.le_of_ble_eq_true rfl) (m_all rfl) (ls := [_, _, _, _, _, _, _, _]) rfl ?_
  refine mJ_aload_n dX8_hint_0 rfl ?_
  refine mJ_iload_n dX8_hint_1 rfl ?_
  refine mJ_cV1i dX8_hint_2 e_X8_isAnchor n_X8_125 ⟨Nat.le_of_ble_eq_true rfl, Nat.le_of_ble_eq_true rfl⟩ rfl rfl (Nat.le_of_ble_eq_true rfl) (C_X8_isAnchor) ?_
  refine mJ_top (b2i_t h1) ?_
  refine mJ_if_eq 50 dX8_hint_5 rfl (fun c => absurd c (by decide)) (fun _ => ?_)
  refine mJ_iload_n dX8_hint_8 rfl ?_
  refine mJ_iconst (v := 1) dX8_hint_9 rfl ?_
  refine mJ_sipush (v := 200) dX8_hint_10 rfl ?_
  refine mJ_cS3i dX8_hint_13 e_X8_in n_X8_32 ⟨Nat.le_of_ble_eq_true rfl, Nat.le_of_ble_eq_true rfl⟩ (Nat.le_of_ble_eq_true rfl) (C_X8_in) ?_
  refine mJ_top (b2i_t h2) ?_
  refine mJ_if_eq 50 dX8_hint_16 rfl (fun c => absurd c (by decide)) (fun _ => ?_)
  refine mJ_iload_n dX8_hint_19 rfl ?_
  refine mJ_iconst (v := 1) dX8_hint_20 rfl ?_
  refine mJ_sipush (v := 200) dX8_hint_21 rfl ?_
  refine mJ_cS3i dX8_hint_24 e_X8_in n_X8_32 ⟨Nat.le_of_ble_eq_true rfl, Nat.le_of_ble_eq_true rfl⟩ (Nat.le_of_ble_eq_true rfl) (C_X8_in) ?_
  refine mJ_top (b2i_t h3) ?_
  refine mJ_if_eq 50 dX8_hint_27 rfl (fun c => absurd c (by decide)) (fun _ => ?_)
  refine mJ_iload dX8_hint_30 rfl ?_
  refine mJ_iconst (v := 0) dX8_hint_32 rfl ?_
  refine mJ_iconst (v := 3) dX8_hint_33 rfl ?_
  refine mJ_cS3i dX8_hint_34 e_X8_in n_X8_32 ⟨Nat.le_of_ble_eq_true rfl, Nat.le_of_ble_eq_true rfl⟩ (Nat.le_of_ble_eq_true rfl) (C_X8_in) ?_
  refine mJ_top (b2i_t h4) ?_
  refine mJ_if_eq 50 dX8_hint_37 rfl (fun c => absurd c (by decide)) (fun _ => ?_)
  refine mJ_iload dX8_hint_40 rfl ?_
  refine mJ_iconst (v := 0) dX8_hint_42 rfl ?_
  refine mJ_iconst (v := 2) dX8_hint_43 rfl ?_
  refine mJ_cS3i dX8_hint_44 e_X8_in n_X8_32 ⟨Nat.le_of_ble_eq_true rfl, Nat.le_of_ble_eq_true rfl⟩ (Nat.le_of_ble_eq_true rfl) (C_X8_in) ?_
  refine mJ_top (b2i_t h5) ?_
  refine mJ_if_ne 54 dX8_hint_47 rfl (fun _ => ?_) (fun c => absurd c (by decide))
  refine mJ_aload_n dX8_hint_54 rfl ?_
  refine mJ_get dX8_hint_55 f_X8_7 rfl rfl ?_
  refine mJ_bipush (v := 50) dX8_hint_58 rfl ?_
  refine mJ_ialdN dX8_hint_60 rfl (j := 50) ⟨rfl, by decide, by decide⟩ ?_
  refine mJ_istore dX8_hint_61 (Nat.le_of_ble_eq_true rfl) (ls2 := [_, _, _, _, _, _, _, _]) rfl ?_
  refine mJ_iload dX8_hint_63 rfl ?_
  refine mJ_bipush (v := 12) dX8_hint_65 rfl ?_
  refine mJ_icmp_ne 74 dX8_hint_67 rfl (fun c_67 => False.elim (by exact c_67 hH)) (fun c_67 => ?_)
  refine mJ_sipush (v := (-10003)) dX8_hint_70 rfl ?_
  exact mJ_iret dX8_hint_73 rfl (rfl) (rfl)
set_option maxHeartbeats 4000000 in
set_option maxRecDepth 100000 in
theorem C_X8_hint {d was text ord why son tri : aF} {typ at_ sig fst snd rea lef top shf arr goo shn trs : Int32} {nH : Nat} {v w h s g : Int32} {n : Nat} (hn : n ≤ 5) (h1 : q_rg v 0 (d 9 - 1)) (h2 : q_rg w 1 200) (h3 : q_rg h 1 200) (h4 : q_rg s 0 3) (h5 : q_rg g 0 2) (hH : d 50 = nI nH) (hl : nH < 12) : mCt k_X8_hint [.ref 0, .int v, .int w, .int h, .int s, .int g] (mH d was (nI n) text typ at_ sig fst snd rea lef top shf arr goo ord why son shn tri trs) (some (.int (nI nH))) (mH (upd (upd (upd (upd (upd (upd (upd (upd (upd (upd d (51 + nH) v) (63 + nH) w) (75 + nH) h) (87 + nH) s) (99 + nH) g) (111 + nH) 0) (123 + nH) 0) (135 + nH) 0) (160 + nH) (-1)) 50 (nI (nH + 1))) (mR was d n) (nI (mN n)) text typ at_ sig fst snd rea lef top shf arr goo ord why son shn tri trs) := by
  refine mCt_intro (plainFor_of_name rfl) (Nat.le_of_ble_eq_true rfl) (m_all rfl) (ls := [_, _, _, _, _, _, _, _]) rfl ?_
  refine mJ_aload_n dX8_hint_0 rfl ?_
  refine mJ_iload_n dX8_hint_1 rfl ?_
  refine mJ_cV1i dX8_hint_2 e_X8_isAnchor n_X8_125 ⟨Nat.le_of_ble_eq_true rfl, Nat.le_of_ble_eq_true rfl⟩ rfl rfl (Nat.le_of_ble_eq_true rfl) (C_X8_isAnchor) ?_
  refine mJ_top (b2i_t h1) ?_
  refine mJ_if_eq 50 dX8_hint_5 rfl (fun c => absurd c (by decide)) (fun _ => ?_)
  refine mJ_iload_n dX8_hint_8 rfl ?_
  refine mJ_iconst (v := 1) dX8_hint_9 rfl ?_
  refine mJ_sipush (v := 200) dX8_hint_10 rfl ?_
  refine mJ_cS3i dX8_hint_13 e_X8_in n_X8_32 ⟨Nat.le_of_ble_eq_true rfl, Nat.le_of_ble_eq_true rfl⟩ (Nat.le_of_ble_eq_true rfl) (C_X8_in) ?_
  refine mJ_top (b2i_t h2) ?_
  refine mJ_if_eq 50 dX8_hint_16 rfl (fun c => absurd c (by decide)) (fun _ => ?_)
  refine mJ_iload_n dX8_hint_19 rfl ?_
  refine mJ_iconst (v := 1) dX8_hint_20 rfl ?_
  refine mJ_sipush (v := 200) dX8_hint_21 rfl ?_
  refine mJ_cS3i dX8_hint_24 e_X8_in n_X8_32 ⟨Nat.le_of_ble_eq_true rfl, Nat.le_of_ble_eq_true rfl⟩ (Nat.le_of_ble_eq_true rfl) (C_X8_in) ?_
  refine mJ_top (b2i_t h3) ?_
  refine mJ_if_eq 50 dX8_hint_27 rfl (fun c => absurd c (by decide)) (fun _ => ?_)
  refine mJ_iload dX8_hint_30 rfl ?_
  refine mJ_iconst (v := 0) dX8_hint_32 rfl ?_
  refine mJ_iconst (v := 3) dX8_hint_33 rfl ?_
  refine mJ_cS3i dX8_hint_34 e_X8_in n_X8_32 ⟨Nat.le_of_ble_eq_true rfl, Nat.le_of_ble_eq_true rfl⟩ (Nat.le_of_ble_eq_true rfl) (C_X8_in) ?_
  refine mJ_top (b2i_t h4) ?_
  refine mJ_if_eq 50 dX8_hint_37 rfl (fun c => absurd c (by decide)) (fun _ => ?_)
  refine mJ_iload dX8_hint_40 rfl ?_
  refine mJ_iconst (v := 0) dX8_hint_42 rfl ?_
  refine mJ_iconst (v := 2) dX8_hint_43 rfl ?_
  refine mJ_cS3i dX8_hint_44 e_X8_in n_X8_32 ⟨Nat.le_of_ble_eq_true rfl, Nat.le_of_ble_eq_true rfl⟩ (Nat.le_of_ble_eq_true rfl) (C_X8_in) ?_
  refine mJ_top (b2i_t h5) ?_
  refine mJ_if_ne 54 dX8_hint_47 rfl (fun _ => ?_) (fun c => absurd c (by decide))
  refine mJ_aload_n dX8_hint_54 rfl ?_
  refine mJ_get dX8_hint_55 f_X8_7 rfl rfl ?_
  refine mJ_bipush (v := 50) dX8_hint_58 rfl ?_
  refine mJ_ialdN dX8_hint_60 rfl (j := 50) ⟨rfl, by decide, by decide⟩ ?_
  refine mJ_top hH ?_
  refine mJ_istore dX8_hint_61 (Nat.le_of_ble_eq_true rfl) (ls2 := [_, _, _, _, _, _, _, _]) rfl ?_
  refine mJ_iload dX8_hint_63 rfl ?_
  refine mJ_bipush (v := 12) dX8_hint_65 rfl ?_
  refine mJ_icmp_ne 74 dX8_hint_67 rfl (fun c_67 => ?_) (fun c_67 => False.elim (by exact absurd ((nI_eq (b := 12) (by omega) (by omega)).mp c_67) (by omega)))
  refine mJ_aload_n dX8_hint_74 rfl ?_
  refine mJ_cV0v dX8_hint_75 e_X8_records n_X8_115 ⟨Nat.le_of_ble_eq_true rfl, Nat.le_of_ble_eq_true rfl⟩ rfl rfl (Nat.le_of_ble_eq_true rfl) (C_X8_records hn) ?_
  refine mJ_aload_n dX8_hint_78 rfl ?_
  refine mJ_get dX8_hint_79 f_X8_7 rfl rfl ?_
  refine mJ_bipush (v := 51) dX8_hint_82 rfl ?_
  refine mJ_iload dX8_hint_84 rfl ?_
  refine mJ_iadd dX8_hint_86 ?_
  refine mJ_iload_n dX8_hint_87 rfl ?_
  refine mJ_iastN dX8_hint_88 rfl (j := 51 + nH) ⟨by simp only [← nI_add]; rfl, by omega, by decide⟩ (h2 := mH _ _ _ _ _ _ _ _ _ _ _ _ _ _ _ _ _ _ _ _ _) rfl ?_
  refine mJ_aload_n dX8_hint_89 rfl ?_
  refine mJ_get dX8_hint_90 f_X8_7 rfl rfl ?_
  refine mJ_bipush (v := 63) dX8_hint_93 rfl ?_
  refine mJ_iload dX8_hint_95 rfl ?_
  refine mJ_iadd dX8_hint_97 ?_
  refine mJ_iload_n dX8_hint_98 rfl ?_
  refine mJ_iastN dX8_hint_99 rfl (j := 63 + nH) ⟨by simp only [← nI_add]; rfl, by omega, by decide⟩ (h2 := mH _ _ _ _ _ _ _ _ _ _ _ _ _ _ _ _ _ _ _ _ _) rfl ?_
  refine mJ_aload_n dX8_hint_100 rfl ?_
  refine mJ_get dX8_hint_101 f_X8_7 rfl rfl ?_
  refine mJ_bipush (v := 75) dX8_hint_104 rfl ?_
  refine mJ_iload dX8_hint_106 rfl ?_
  refine mJ_iadd dX8_hint_108 ?_
  refine mJ_iload_n dX8_hint_109 rfl ?_
  refine mJ_iastN dX8_hint_110 rfl (j := 75 + nH) ⟨by simp only [← nI_add]; rfl, by omega, by decide⟩ (h2 := mH _ _ _ _ _ _ _ _ _ _ _ _ _ _ _ _ _ _ _ _ _) rfl ?_
  refine mJ_aload_n dX8_hint_111 rfl ?_
  refine mJ_get dX8_hint_112 f_X8_7 rfl rfl ?_
  refine mJ_bipush (v := 87) dX8_hint_115 rfl ?_
  refine mJ_iload dX8_hint_117 rfl ?_
  refine mJ_iadd dX8_hint_119 ?_
  refine mJ_iload dX8_hint_120 rfl ?_
  refine mJ_iastN dX8_hint_122 rfl (j := 87 + nH) ⟨by simp only [← nI_add]; rfl, by omega, by decide⟩ (h2 := mH _ _ _ _ _ _ _ _ _ _ _ _ _ _ _ _ _ _ _ _ _) rfl ?_
  refine mJ_aload_n dX8_hint_123 rfl ?_
  refine mJ_get dX8_hint_124 f_X8_7 rfl rfl ?_
  refine mJ_bipush (v := 99) dX8_hint_127 rfl ?_
  refine mJ_iload dX8_hint_129 rfl ?_
  refine mJ_iadd dX8_hint_131 ?_
  refine mJ_iload dX8_hint_132 rfl ?_
  refine mJ_iastN dX8_hint_134 rfl (j := 99 + nH) ⟨by simp only [← nI_add]; rfl, by omega, by decide⟩ (h2 := mH _ _ _ _ _ _ _ _ _ _ _ _ _ _ _ _ _ _ _ _ _) rfl ?_
  refine mJ_iconst (v := 5) dX8_hint_135 rfl ?_
  refine mJ_istore dX8_hint_136 (Nat.le_of_ble_eq_true rfl) (ls2 := [_, _, _, _, _, _, _, _]) rfl ?_
  refine mJ_iload dX8_hint_138 rfl ?_
  refine mJ_bipush (v := 8) dX8_hint_140 rfl ?_
  refine mJ_icmp_ge 168 dX8_hint_142 rfl (fun c => absurd c (by decide)) (fun _ => ?_)
  refine mJ_aload_n dX8_hint_145 rfl ?_
  refine mJ_get dX8_hint_146 f_X8_7 rfl rfl ?_
  refine mJ_bipush (v := 51) dX8_hint_149 rfl ?_
  refine mJ_bipush (v := 12) dX8_hint_151 rfl ?_
  refine mJ_iload dX8_hint_153 rfl ?_
  refine mJ_imul dX8_hint_155 ?_
  refine mJ_iadd dX8_hint_156 ?_
  refine mJ_iload dX8_hint_157 rfl ?_
  refine mJ_iadd dX8_hint_159 ?_
  refine mJ_iconst (v := 0) dX8_hint_160 rfl ?_
  refine mJ_iastN dX8_hint_161 rfl (j := 111 + nH) ⟨by simp only [← nI_add]; rfl, by omega, by decide⟩ (h2 := mH _ _ _ _ _ _ _ _ _ _ _ _ _ _ _ _ _ _ _ _ _) rfl ?_
  refine mJ_iinc dX8_hint_162 rfl (Nat.le_of_ble_eq_true rfl) (v := 6) (by decide) (ls2 := [_, _, _, _, _, _, _, _]) rfl ?_
  refine mJ_goto 138 dX8_hint_165 rfl ?_
  refine mJ_iload dX8_hint_138 rfl ?_
  refine mJ_bipush (v := 8) dX8_hint_140 rfl ?_
  refine mJ_icmp_ge 168 dX8_hint_142 rfl (fun c => absurd c (by decide)) (fun _ => ?_)
  refine mJ_aload_n dX8_hint_145 rfl ?_
  refine mJ_get dX8_hint_146 f_X8_7 rfl rfl ?_
  refine mJ_bipush (v := 51) dX8_hint_149 rfl ?_
  refine mJ_bipush (v := 12) dX8_hint_151 rfl ?_
  refine mJ_iload dX8_hint_153 rfl ?_
  refine mJ_imul dX8_hint_155 ?_
  refine mJ_iadd dX8_hint_156 ?_
  refine mJ_iload dX8_hint_157 rfl ?_
  refine mJ_iadd dX8_hint_159 ?_
  refine mJ_iconst (v := 0) dX8_hint_160 rfl ?_
  refine mJ_iastN dX8_hint_161 rfl (j := 123 + nH) ⟨by simp only [← nI_add]; rfl, by omega, by decide⟩ (h2 := mH _ _ _ _ _ _ _ _ _ _ _ _ _ _ _ _ _ _ _ _ _) rfl ?_
  refine mJ_iinc dX8_hint_162 rfl (Nat.le_of_ble_eq_true rfl) (v := 7) (by decide) (ls2 := [_, _, _, _, _, _, _, _]) rfl ?_
  refine mJ_goto 138 dX8_hint_165 rfl ?_
  refine mJ_iload dX8_hint_138 rfl ?_
  refine mJ_bipush (v := 8) dX8_hint_140 rfl ?_
  refine mJ_icmp_ge 168 dX8_hint_142 rfl (fun c => absurd c (by decide)) (fun _ => ?_)
  refine mJ_aload_n dX8_hint_145 rfl ?_
  refine mJ_get dX8_hint_146 f_X8_7 rfl rfl ?_
  refine mJ_bipush (v := 51) dX8_hint_149 rfl ?_
  refine mJ_bipush (v := 12) dX8_hint_151 rfl ?_
  refine mJ_iload dX8_hint_153 rfl ?_
  refine mJ_imul dX8_hint_155 ?_
  refine mJ_iadd dX8_hint_156 ?_
  refine mJ_iload dX8_hint_157 rfl ?_
  refine mJ_iadd dX8_hint_159 ?_
  refine mJ_iconst (v := 0) dX8_hint_160 rfl ?_
  refine mJ_iastN dX8_hint_161 rfl (j := 135 + nH) ⟨by simp only [← nI_add]; rfl, by omega, by decide⟩ (h2 := mH _ _ _ _ _ _ _ _ _ _ _ _ _ _ _ _ _ _ _ _ _) rfl ?_
  refine mJ_iinc dX8_hint_162 rfl (Nat.le_of_ble_eq_true rfl) (v := 8) (by decide) (ls2 := [_, _, _, _, _, _, _, _]) rfl ?_
  refine mJ_goto 138 dX8_hint_165 rfl ?_
  refine mJ_iload dX8_hint_138 rfl ?_
  refine mJ_bipush (v := 8) dX8_hint_140 rfl ?_
  refine mJ_icmp_ge 168 dX8_hint_142 rfl (fun _ => ?_) (fun c => absurd c (by decide))
  refine mJ_aload_n dX8_hint_168 rfl ?_
  refine mJ_get dX8_hint_169 f_X8_7 rfl rfl ?_
  refine mJ_sipush (v := 160) dX8_hint_172 rfl ?_
  refine mJ_iload dX8_hint_175 rfl ?_
  refine mJ_iadd dX8_hint_177 ?_
  refine mJ_iconst (v := (-1)) dX8_hint_178 rfl ?_
  refine mJ_iastN dX8_hint_179 rfl (j := 160 + nH) ⟨by simp only [← nI_add]; rfl, by omega, by decide⟩ (h2 := mH _ _ _ _ _ _ _ _ _ _ _ _ _ _ _ _ _ _ _ _ _) rfl ?_
  refine mJ_aload_n dX8_hint_180 rfl ?_
  refine mJ_get dX8_hint_181 f_X8_7 rfl rfl ?_
  refine mJ_bipush (v := 50) dX8_hint_184 rfl ?_
  refine mJ_dup2 dX8_hint_186 rfl rfl ?_
  refine mJ_ialdN dX8_hint_187 rfl (j := 50) ⟨rfl, by decide, by decide⟩ ?_
  refine mJ_top (show upd (upd (upd (upd (upd (upd (upd (upd (upd d (51 + nH) v) (63 + nH) w) (75 + nH) h) (87 + nH) s) (99 + nH) g) (111 + nH) 0) (123 + nH) 0) (135 + nH) 0) (160 + nH) (-1) 50 = nI nH by rw [upd_ne (by omega), upd_ne (by omega), upd_ne (by omega), upd_ne (by omega), upd_ne (by omega), upd_ne (by omega), upd_ne (by omega), upd_ne (by omega), upd_ne (by omega), hH]) ?_
  refine mJ_iconst (v := 1) dX8_hint_188 rfl ?_
  refine mJ_iadd dX8_hint_189 ?_
  refine mJ_top (nI_1 nH) ?_
  refine mJ_iastN dX8_hint_190 rfl (j := 50) ⟨rfl, by decide, by decide⟩ (h2 := mH _ _ _ _ _ _ _ _ _ _ _ _ _ _ _ _ _ _ _ _ _) rfl ?_
  refine mJ_iload dX8_hint_191 rfl ?_
  exact mJ_iret dX8_hint_193 rfl (rfl) (rfl)
set_option maxHeartbeats 4000000 in
set_option maxRecDepth 100000 in
theorem C_X8_alter_bad {d was text ord why son tri : aF} {sta typ at_ sig fst snd rea lef top shf arr goo shn trs : Int32} {h w v : Int32} (hb : ¬ (q_rg h 0 (d 50 - 1) ∧ q_of d w v)) : mCt k_X8_alter [.ref 0, .int h, .int w, .int v] (mH d was sta text typ at_ sig fst snd rea lef top shf arr goo ord why son shn tri trs) (some (.int (-10001))) (mH d was sta text typ at_ sig fst snd rea lef top shf arr goo ord why son shn tri trs) := by
  refine mCt_intro (plainFor_of_name rfl) (Nat.le_of_ble_eq_true rfl) (m_all rfl) (ls := [_, _, _, _, _]) rfl ?_
  refine mJ_aload_n dX8_alter_0 rfl ?_
  refine mJ_iload_n dX8_alter_1 rfl ?_
  refine mJ_cV1i dX8_alter_2 e_X8_isHint n_X8_138 ⟨Nat.le_of_ble_eq_true rfl, Nat.le_of_ble_eq_true rfl⟩ rfl rfl (Nat.le_of_ble_eq_true rfl) (C_X8_isHint) ?_
  refine mJ_b2i (fun b_2 => ?_) (fun b_2 => ?_)
  · refine mJ_if_eq 17 dX8_alter_5 rfl (fun c => absurd c (by decide)) (fun _ => ?_)
    refine mJ_aload_n dX8_alter_8 rfl ?_
    refine mJ_iload_n dX8_alter_9 rfl ?_
    refine mJ_iload_n dX8_alter_10 rfl ?_
    refine mJ_cV2i dX8_alter_11 e_X8_isOf n_X8_141 ⟨Nat.le_of_ble_eq_true rfl, Nat.le_of_ble_eq_true rfl⟩ rfl rfl (Nat.le_of_ble_eq_true rfl) (C_X8_isOf) ?_
    refine mJ_b2i (fun b_11 => ?_) (fun b_11 => ?_)
    · exact False.elim (by exact hb ⟨b_2, b_11⟩)
    · refine mJ_if_ne 21 dX8_alter_14 rfl (fun c => absurd c (by decide)) (fun _ => ?_)
      refine mJ_sipush (v := (-10001)) dX8_alter_17 rfl ?_
      exact mJ_iret dX8_alter_20 rfl (rfl) (rfl)
  · refine mJ_if_eq 17 dX8_alter_5 rfl (fun _ => ?_) (fun c => absurd c (by decide))
    refine mJ_sipush (v := (-10001)) dX8_alter_17 rfl ?_
    exact mJ_iret dX8_alter_20 rfl (rfl) (rfl)
set_option maxHeartbeats 4000000 in
set_option maxRecDepth 100000 in
theorem C_X8_alter_f {d was text ord why son tri : aF} {typ at_ sig fst snd rea lef top shf arr goo shn trs : Int32}  {v : Int32} {h w : Nat} {n : Nat} (hn : n ≤ 5) (hh : h < 12) (hw8 : w < 8) (h1 : q_rg (nI h) 0 (d 50 - 1)) (h2 : q_of d (nI w) v) (h3 : w = 0 ∨ w = 3) : mCt k_X8_alter [.ref 0, .int (nI h), .int (nI w), .int v] (mH d was (nI n) text typ at_ sig fst snd rea lef top shf arr goo ord why son shn tri trs) (some (.int (dH d h w))) (mH (upd (upd d (51 + 12 * w + h) v) (160 + h) (-1)) (mR was d n) (nI (mN n)) text typ at_ sig fst snd rea lef top shf arr goo ord why son shn tri trs) := by
  refine mCt_intro (plainFor_of_name rfl) (Nat.le_of_ble_eq_true rfl) (m_all rfl) (ls := [_, _, _, _, _]) rfl ?_
  refine mJ_aload_n dX8_alter_0 rfl ?_
  refine mJ_iload_n dX8_alter_1 rfl ?_
  refine mJ_cV1i dX8_alter_2 e_X8_isHint n_X8_138 ⟨Nat.le_of_ble_eq_true rfl, Nat.le_of_ble_eq_true rfl⟩ rfl rfl (Nat.le_of_ble_eq_true rfl) (C_X8_isHint) ?_
  refine mJ_top (b2i_t h1) ?_
  refine mJ_if_eq 17 dX8_alter_5 rfl (fun c => absurd c (by decide)) (fun _ => ?_)
  refine mJ_aload_n dX8_alter_8 rfl ?_
  refine mJ_iload_n dX8_alter_9 rfl ?_
  refine mJ_iload_n dX8_alter_10 rfl ?_
  refine mJ_cV2i dX8_alter_11 e_X8_isOf n_X8_141 ⟨Nat.le_of_ble_eq_true rfl, Nat.le_of_ble_eq_true rfl⟩ rfl rfl (Nat.le_of_ble_eq_true rfl) (C_X8_isOf) ?_
  refine mJ_top (b2i_t h2) ?_
  refine mJ_if_ne 21 dX8_alter_14 rfl (fun _ => ?_) (fun c => absurd c (by decide))
  refine mJ_aload_n dX8_alter_21 rfl ?_
  refine mJ_cV0v dX8_alter_22 e_X8_records n_X8_115 ⟨Nat.le_of_ble_eq_true rfl, Nat.le_of_ble_eq_true rfl⟩ rfl rfl (Nat.le_of_ble_eq_true rfl) (C_X8_records hn) ?_
  refine mJ_aload_n dX8_alter_25 rfl ?_
  refine mJ_iload_n dX8_alter_26 rfl ?_
  refine mJ_iload_n dX8_alter_27 rfl ?_
  refine mJ_cV2i dX8_alter_28 e_X8_ofHint n_X8_52 ⟨Nat.le_of_ble_eq_true rfl, Nat.le_of_ble_eq_true rfl⟩ rfl rfl (Nat.le_of_ble_eq_true rfl) (C_X8_ofHint hh hw8) ?_
  refine mJ_istore dX8_alter_31 (Nat.le_of_ble_eq_true rfl) (ls2 := [_, _, _, _, _]) rfl ?_
  refine mJ_aload_n dX8_alter_33 rfl ?_
  refine mJ_get dX8_alter_34 f_X8_7 rfl rfl ?_
  refine mJ_bipush (v := 51) dX8_alter_37 rfl ?_
  refine mJ_bipush (v := 12) dX8_alter_39 rfl ?_
  refine mJ_iload_n dX8_alter_41 rfl ?_
  refine mJ_imul dX8_alter_42 ?_
  refine mJ_iadd dX8_alter_43 ?_
  refine mJ_iload_n dX8_alter_44 rfl ?_
  refine mJ_iadd dX8_alter_45 ?_
  refine mJ_iload_n dX8_alter_46 rfl ?_
  refine mJ_iastN dX8_alter_47 rfl (j := 51 + 12 * w + h) ⟨by simp only [← nI_add, ← pk_mul]; rfl, by omega, by decide⟩ (h2 := mH _ _ _ _ _ _ _ _ _ _ _ _ _ _ _ _ _ _ _ _ _) rfl ?_
  refine mJ_aload_n dX8_alter_48 rfl ?_
  refine mJ_get dX8_alter_49 f_X8_7 rfl rfl ?_
  refine mJ_sipush (v := 160) dX8_alter_52 rfl ?_
  refine mJ_iload_n dX8_alter_55 rfl ?_
  refine mJ_iadd dX8_alter_56 ?_
  refine mJ_iload_n dX8_alter_57 rfl ?_
  refine mJ_if_eq 66 dX8_alter_58 rfl (fun c_58 => ?_) (fun c_58 => ?_)
  · refine mJ_iconst (v := (-1)) dX8_alter_66 rfl ?_
    refine mJ_goto 80 dX8_alter_67 rfl ?_
    refine mJ_iastN dX8_alter_80 rfl (j := 160 + h) ⟨by simp only [← nI_add]; rfl, by omega, by decide⟩ (h2 := mH _ _ _ _ _ _ _ _ _ _ _ _ _ _ _ _ _ _ _ _ _) rfl ?_
    refine mJ_iload dX8_alter_81 rfl ?_
    exact mJ_iret dX8_alter_83 rfl (rfl) (rfl)
  · refine mJ_iload_n dX8_alter_61 rfl ?_
    refine mJ_iconst (v := 3) dX8_alter_62 rfl ?_
    refine mJ_icmp_ne 70 dX8_alter_63 rfl (fun c_63 => False.elim (by exact h3.elim (fun z => c_58 (by rw [z]; rfl)) (fun z => c_63 (by rw [z]; rfl)))) (fun c_63 => ?_)
    refine mJ_iconst (v := (-1)) dX8_alter_66 rfl ?_
    refine mJ_goto 80 dX8_alter_67 rfl ?_
    refine mJ_iastN dX8_alter_80 rfl (j := 160 + h) ⟨by simp only [← nI_add]; rfl, by omega, by decide⟩ (h2 := mH _ _ _ _ _ _ _ _ _ _ _ _ _ _ _ _ _ _ _ _ _) rfl ?_
    refine mJ_iload dX8_alter_81 rfl ?_
    exact mJ_iret dX8_alter_83 rfl (rfl) (rfl)
set_option maxHeartbeats 4000000 in
set_option maxRecDepth 100000 in
theorem C_X8_alter {d was text ord why son tri : aF} {typ at_ sig fst snd rea lef top shf arr goo shn trs : Int32}  {v : Int32} {h w : Nat} {n : Nat} (hn : n ≤ 5) (hh : h < 12) (hw8 : w < 8) (h1 : q_rg (nI h) 0 (d 50 - 1)) (h2 : q_of d (nI w) v) (h3 : ¬ (w = 0 ∨ w = 3)) : mCt k_X8_alter [.ref 0, .int (nI h), .int (nI w), .int v] (mH d was (nI n) text typ at_ sig fst snd rea lef top shf arr goo ord why son shn tri trs) (some (.int (dH d h w))) (mH (upd d (51 + 12 * w + h) v) (mR was d n) (nI (mN n)) text typ at_ sig fst snd rea lef top shf arr goo ord why son shn tri trs) := by
  have hs := upd_same (f := upd d (51 + 12 * w + h) v) (k := 160 + h) (v := (upd d (51 + 12 * w + h) v) (160 + h)) rfl
  refine mCt_intro (plainFor_of_name rfl) (Nat.le_of_ble_eq_true rfl) (m_all rfl) (ls := [_, _, _, _, _]) rfl ?_
  refine mJ_aload_n dX8_alter_0 rfl ?_
  refine mJ_iload_n dX8_alter_1 rfl ?_
  refine mJ_cV1i dX8_alter_2 e_X8_isHint n_X8_138 ⟨Nat.le_of_ble_eq_true rfl, Nat.le_of_ble_eq_true rfl⟩ rfl rfl (Nat.le_of_ble_eq_true rfl) (C_X8_isHint) ?_
  refine mJ_top (b2i_t h1) ?_
  refine mJ_if_eq 17 dX8_alter_5 rfl (fun c => absurd c (by decide)) (fun _ => ?_)
  refine mJ_aload_n dX8_alter_8 rfl ?_
  refine mJ_iload_n dX8_alter_9 rfl ?_
  refine mJ_iload_n dX8_alter_10 rfl ?_
  refine mJ_cV2i dX8_alter_11 e_X8_isOf n_X8_141 ⟨Nat.le_of_ble_eq_true rfl, Nat.le_of_ble_eq_true rfl⟩ rfl rfl (Nat.le_of_ble_eq_true rfl) (C_X8_isOf) ?_
  refine mJ_top (b2i_t h2) ?_
  refine mJ_if_ne 21 dX8_alter_14 rfl (fun _ => ?_) (fun c => absurd c (by decide))
  refine mJ_aload_n dX8_alter_21 rfl ?_
  refine mJ_cV0v dX8_alter_22 e_X8_records n_X8_115 ⟨Nat.le_of_ble_eq_true rfl, Nat.le_of_ble_eq_true rfl⟩ rfl rfl (Nat.le_of_ble_eq_true rfl) (C_X8_records hn) ?_
  refine mJ_aload_n dX8_alter_25 rfl ?_
  refine mJ_iload_n dX8_alter_26 rfl ?_
  refine mJ_iload_n dX8_alter_27 rfl ?_
  refine mJ_cV2i dX8_alter_28 e_X8_ofHint n_X8_52 ⟨Nat.le_of_ble_eq_true rfl, Nat.le_of_ble_eq_true rfl⟩ rfl rfl (Nat.le_of_ble_eq_true rfl) (C_X8_ofHint hh hw8) ?_
  refine mJ_istore dX8_alter_31 (Nat.le_of_ble_eq_true rfl) (ls2 := [_, _, _, _, _]) rfl ?_
  refine mJ_aload_n dX8_alter_33 rfl ?_
  refine mJ_get dX8_alter_34 f_X8_7 rfl rfl ?_
  refine mJ_bipush (v := 51) dX8_alter_37 rfl ?_
  refine mJ_bipush (v := 12) dX8_alter_39 rfl ?_
  refine mJ_iload_n dX8_alter_41 rfl ?_
  refine mJ_imul dX8_alter_42 ?_
  refine mJ_iadd dX8_alter_43 ?_
  refine mJ_iload_n dX8_alter_44 rfl ?_
  refine mJ_iadd dX8_alter_45 ?_
  refine mJ_iload_n dX8_alter_46 rfl ?_
  refine mJ_iastN dX8_alter_47 rfl (j := 51 + 12 * w + h) ⟨by simp only [← nI_add, ← pk_mul]; rfl, by omega, by decide⟩ (h2 := mH _ _ _ _ _ _ _ _ _ _ _ _ _ _ _ _ _ _ _ _ _) rfl ?_
  refine mJ_aload_n dX8_alter_48 rfl ?_
  refine mJ_get dX8_alter_49 f_X8_7 rfl rfl ?_
  refine mJ_sipush (v := 160) dX8_alter_52 rfl ?_
  refine mJ_iload_n dX8_alter_55 rfl ?_
  refine mJ_iadd dX8_alter_56 ?_
  refine mJ_iload_n dX8_alter_57 rfl ?_
  refine mJ_if_eq 66 dX8_alter_58 rfl (fun c_58 => False.elim (by exact h3 (Or.inl ((nI_eq (b := 0) (by omega) (by omega)).mp c_58)))) (fun c_58 => ?_)
  refine mJ_iload_n dX8_alter_61 rfl ?_
  refine mJ_iconst (v := 3) dX8_alter_62 rfl ?_
  refine mJ_icmp_ne 70 dX8_alter_63 rfl (fun c_63 => ?_) (fun c_63 => False.elim (by exact h3 (Or.inr ((nI_eq (b := 3) (by omega) (by omega)).mp c_63))))
  refine mJ_aload_n dX8_alter_70 rfl ?_
  refine mJ_get dX8_alter_71 f_X8_7 rfl rfl ?_
  refine mJ_sipush (v := 160) dX8_alter_74 rfl ?_
  refine mJ_iload_n dX8_alter_77 rfl ?_
  refine mJ_iadd dX8_alter_78 ?_
  refine mJ_ialdN dX8_alter_79 rfl (j := 160 + h) ⟨by simp only [← nI_add]; rfl, by omega, by decide⟩ ?_
  refine mJ_iastN dX8_alter_80 rfl (j := 160 + h) ⟨by simp only [← nI_add]; rfl, by omega, by decide⟩ (h2 := mH _ _ _ _ _ _ _ _ _ _ _ _ _ _ _ _ _ _ _ _ _) rfl ?_
  refine mJ_iload dX8_alter_81 rfl ?_
  exact mJ_iret dX8_alter_83 rfl (rfl) (by rw [hs])
/-- the place of a hint among the first k opened, or -1 -/
def pO (d : aF) (v : Int32) : Nat → Nat → Int32
  | 0, _ => -1
  | m + 1, k => if d (148 + k) = v then nI k else pO d v m (k + 1)
set_option maxHeartbeats 4000000 in
set_option maxRecDepth 100000 in
theorem L_X8_placeOf {d was text ord why son tri : aF} {sta typ at_ sig fst snd rea lef top shf arr goo shn trs : Int32} {nO : Nat} (hO : d 147 = nI nO) (hl : nO ≤ 12) {v : Int32} : ∀ (m k : Nat), k + m = nO → mJ k_X8_placeOf 2 [.ref 0, .int v, .int (nI k)] [] (mH d was sta text typ at_ sig fst snd rea lef top shf arr goo ord why son shn tri trs) (some (.int (pO d v m k))) (mH d was sta text typ at_ sig fst snd rea lef top shf arr goo ord why son shn tri trs) := by
  intro m
  induction m with
  | zero =>
    intro k hk
    refine mJ_iload_n dX8_placeOf_2 rfl ?_
    refine mJ_aload_n dX8_placeOf_3 rfl ?_
    refine mJ_get dX8_placeOf_4 f_X8_7 rfl rfl ?_
    refine mJ_sipush (v := 147) dX8_placeOf_7 rfl ?_
    refine mJ_ialdN dX8_placeOf_10 rfl (j := 147) ⟨rfl, by decide, by decide⟩ ?_
    refine mJ_icmp_ge 36 dX8_placeOf_11 rfl (fun c_11 => ?_) (fun c_11 => False.elim (by exact c_11 (by rw [hO, show k = nO by omega]; exact Int32.le_refl _)))
    refine mJ_iconst (v := (-1)) dX8_placeOf_36 rfl ?_
    exact mJ_iret dX8_placeOf_37 rfl (rfl) (rfl)
  | succ m ih =>
    intro k hk
    refine mJ_iload_n dX8_placeOf_2 rfl ?_
    refine mJ_aload_n dX8_placeOf_3 rfl ?_
    refine mJ_get dX8_placeOf_4 f_X8_7 rfl rfl ?_
    refine mJ_sipush (v := 147) dX8_placeOf_7 rfl ?_
    refine mJ_ialdN dX8_placeOf_10 rfl (j := 147) ⟨rfl, by decide, by decide⟩ ?_
    refine mJ_icmp_ge 36 dX8_placeOf_11 rfl (fun c_11 => False.elim (by rw [hO] at c_11; exact nI_ge (show k < nO by omega) (by omega) c_11)) (fun c_11 => ?_)
    refine mJ_aload_n dX8_placeOf_14 rfl ?_
    refine mJ_get dX8_placeOf_15 f_X8_7 rfl rfl ?_
    refine mJ_sipush (v := 148) dX8_placeOf_18 rfl ?_
    refine mJ_iload_n dX8_placeOf_21 rfl ?_
    refine mJ_iadd dX8_placeOf_22 ?_
    refine mJ_ialdN dX8_placeOf_23 rfl (j := 148 + k) ⟨by simp only [← nI_add]; rfl, by omega, by decide⟩ ?_
    refine mJ_iload_n dX8_placeOf_24 rfl ?_
    refine mJ_icmp_ne 30 dX8_placeOf_25 rfl (fun c_25 => ?_) (fun c_25 => ?_)
    · refine mJ_iinc dX8_placeOf_30 rfl (Nat.le_of_ble_eq_true rfl) (v := nI (k + 1)) (nI_1 k) (ls2 := [_, _, _]) rfl ?_
      refine mJ_goto 2 dX8_placeOf_33 rfl ?_
      rw [show pO d v (m + 1) k = _ from if_neg c_25]
      exact ih (k + 1) (by omega)
    · refine mJ_iload_n dX8_placeOf_28 rfl ?_
      exact mJ_iret dX8_placeOf_29 rfl (by rw [show pO d v (m + 1) k = _ from if_pos c_25]) (rfl)
set_option maxHeartbeats 4000000 in
set_option maxRecDepth 100000 in
theorem C_X8_placeOf {d was text ord why son tri : aF} {sta typ at_ sig fst snd rea lef top shf arr goo shn trs : Int32} {nO : Nat} (hO : d 147 = nI nO) (hl : nO ≤ 12) {v : Int32} : mCt k_X8_placeOf [.ref 0, .int v] (mH d was sta text typ at_ sig fst snd rea lef top shf arr goo ord why son shn tri trs) (some (.int (pO d v nO 0))) (mH d was sta text typ at_ sig fst snd rea lef top shf arr goo ord why son shn tri trs) := by
  refine mCt_intro (plainFor_of_name rfl) (Nat.le_of_ble_eq_true rfl) (m_all rfl) (ls := [_, _, _]) rfl ?_
  refine mJ_iconst (v := 0) dX8_placeOf_0 rfl ?_
  refine mJ_istore_n dX8_placeOf_1 (Nat.le_of_ble_eq_true rfl) (ls2 := [_, _, _]) rfl ?_
  exact L_X8_placeOf hO hl nO 0 (by omega)
set_option maxHeartbeats 4000000 in
set_option maxRecDepth 100000 in
theorem C_X8_opens {d was text ord why son tri : aF} {sta typ at_ sig fst snd rea lef top shf arr goo shn trs : Int32} {nO : Nat} (hO : d 147 = nI nO) (hl : nO < 12) {v : Int32} : mCt k_X8_opens [.ref 0, .int v] (mH d was sta text typ at_ sig fst snd rea lef top shf arr goo ord why son shn tri trs) none (mH (upd (upd d (148 + nO) v) 147 (nI (nO + 1))) was sta text typ at_ sig fst snd rea lef top shf arr goo ord why son shn tri trs) := by
  refine mCt_intro (plainFor_of_name rfl) (Nat.le_of_ble_eq_true rfl) (m_all rfl) (ls := [_, _]) rfl ?_
  refine mJ_aload_n dX8_opens_0 rfl ?_
  refine mJ_get dX8_opens_1 f_X8_7 rfl rfl ?_
  refine mJ_sipush (v := 148) dX8_opens_4 rfl ?_
  refine mJ_aload_n dX8_opens_7 rfl ?_
  refine mJ_get dX8_opens_8 f_X8_7 rfl rfl ?_
  refine mJ_sipush (v := 147) dX8_opens_11 rfl ?_
  refine mJ_ialdN dX8_opens_14 rfl (j := 147) ⟨rfl, by decide, by decide⟩ ?_
  refine mJ_top hO ?_
  refine mJ_iadd dX8_opens_15 ?_
  refine mJ_iload_n dX8_opens_16 rfl ?_
  refine mJ_iastN dX8_opens_17 rfl (j := 148 + nO) ⟨by simp only [← nI_add]; rfl, by omega, by decide⟩ (h2 := mH _ _ _ _ _ _ _ _ _ _ _ _ _ _ _ _ _ _ _ _ _) rfl ?_
  refine mJ_aload_n dX8_opens_18 rfl ?_
  refine mJ_get dX8_opens_19 f_X8_7 rfl rfl ?_
  refine mJ_sipush (v := 147) dX8_opens_22 rfl ?_
  refine mJ_dup2 dX8_opens_25 rfl rfl ?_
  refine mJ_ialdN dX8_opens_26 rfl (j := 147) ⟨rfl, by decide, by decide⟩ ?_
  refine mJ_top ((upd_ne (by omega)).trans hO) ?_
  refine mJ_iconst (v := 1) dX8_opens_27 rfl ?_
  refine mJ_iadd dX8_opens_28 ?_
  refine mJ_top (nI_1 nO) ?_
  refine mJ_iastN dX8_opens_29 rfl (j := 147) ⟨rfl, by decide, by decide⟩ (h2 := mH _ _ _ _ _ _ _ _ _ _ _ _ _ _ _ _ _ _ _ _ _) rfl ?_
  exact mJ_vret dX8_opens_30 rfl (rfl) (rfl)
/-- the opened row from place p on moved up by one, k places done -/
def shO (d : aF) (p k : Nat) : aF := fun j => if 148 + p ≤ j ∧ j < 148 + p + k then d (j + 1) else d j
theorem shO_0 (d : aF) (p : Nat) : shO d p 0 = d := by
  funext j
  unfold shO
  rw [if_neg (by omega)]
theorem shO_s (d : aF) (p k : Nat) : upd (shO d p k) (148 + (p + k)) (shO d p k (148 + (p + k) + 1)) = shO d p (k + 1) := by
  funext j
  unfold upd
  by_cases h : j = 148 + (p + k)
  · subst h
    rw [if_pos rfl]
    unfold shO
    rw [if_neg (by omega), if_pos (by omega)]
  · rw [if_neg h]
    unfold shO
    by_cases h2 : 148 + p ≤ j ∧ j < 148 + p + k
    · rw [if_pos h2, if_pos (by omega)]
    · rw [if_neg h2, if_neg (by omega)]
set_option maxHeartbeats 4000000 in
set_option maxRecDepth 100000 in
theorem L_X8_closes {was text ord why son tri : aF} {sta typ at_ sig fst snd rea lef top shf arr goo shn trs : Int32} {d0 : aF} {n1 p h : Nat} (h147 : d0 147 = nI n1) (hn1 : n1 ≤ 11) (hh : h < 12) (hp : p ≤ n1) {x2 : Int32} : ∀ (m k : Nat), p + k + m = n1 → mJ k_X8_closes 20 [.ref 0, .int (nI h), .int x2, .int (nI (p + k))] [] (mH (shO d0 p k) was sta text typ at_ sig fst snd rea lef top shf arr goo ord why son shn tri trs) none (mH (upd (shO d0 p (n1 - p)) (160 + h) (-1)) was sta text typ at_ sig fst snd rea lef top shf arr goo ord why son shn tri trs) := by
  intro m
  induction m with
  | zero =>
    intro k hk
    have h147k : shO d0 p k 147 = nI n1 := by unfold shO; rw [if_neg (by omega)]; exact h147
    refine mJ_iload_n dX8_closes_20 rfl ?_
    refine mJ_aload_n dX8_closes_21 rfl ?_
    refine mJ_get dX8_closes_22 f_X8_7 rfl rfl ?_
    refine mJ_sipush (v := 147) dX8_closes_25 rfl ?_
    refine mJ_ialdN dX8_closes_28 rfl (j := 147) ⟨rfl, by decide, by decide⟩ ?_
    refine mJ_top h147k ?_
    refine mJ_icmp_ge 60 dX8_closes_29 rfl (fun c_29 => ?_) (fun c_29 => False.elim (by exact c_29 (by rw [show p + k = n1 by omega]; exact Int32.le_refl _)))
    refine mJ_aload_n dX8_closes_60 rfl ?_
    refine mJ_get dX8_closes_61 f_X8_7 rfl rfl ?_
    refine mJ_sipush (v := 160) dX8_closes_64 rfl ?_
    refine mJ_iload_n dX8_closes_67 rfl ?_
    refine mJ_iadd dX8_closes_68 ?_
    refine mJ_iconst (v := (-1)) dX8_closes_69 rfl ?_
    refine mJ_iastN dX8_closes_70 rfl (j := 160 + h) ⟨by simp only [← nI_add]; rfl, by omega, by decide⟩ (h2 := mH _ _ _ _ _ _ _ _ _ _ _ _ _ _ _ _ _ _ _ _ _) rfl ?_
    exact mJ_vret dX8_closes_71 rfl (rfl) (by rw [show k = n1 - p by omega])
  | succ m ih =>
    intro k hk
    have h147k : shO d0 p k 147 = nI n1 := by unfold shO; rw [if_neg (by omega)]; exact h147
    refine mJ_iload_n dX8_closes_20 rfl ?_
    refine mJ_aload_n dX8_closes_21 rfl ?_
    refine mJ_get dX8_closes_22 f_X8_7 rfl rfl ?_
    refine mJ_sipush (v := 147) dX8_closes_25 rfl ?_
    refine mJ_ialdN dX8_closes_28 rfl (j := 147) ⟨rfl, by decide, by decide⟩ ?_
    refine mJ_top h147k ?_
    refine mJ_icmp_ge 60 dX8_closes_29 rfl (fun c_29 => False.elim (by exact nI_ge (show p + k < n1 by omega) (by omega) c_29)) (fun c_29 => ?_)
    refine mJ_aload_n dX8_closes_32 rfl ?_
    refine mJ_get dX8_closes_33 f_X8_7 rfl rfl ?_
    refine mJ_sipush (v := 148) dX8_closes_36 rfl ?_
    refine mJ_iload_n dX8_closes_39 rfl ?_
    refine mJ_iadd dX8_closes_40 ?_
    refine mJ_aload_n dX8_closes_41 rfl ?_
    refine mJ_get dX8_closes_42 f_X8_7 rfl rfl ?_
    refine mJ_sipush (v := 148) dX8_closes_45 rfl ?_
    refine mJ_iload_n dX8_closes_48 rfl ?_
    refine mJ_iadd dX8_closes_49 ?_
    refine mJ_iconst (v := 1) dX8_closes_50 rfl ?_
    refine mJ_iadd dX8_closes_51 ?_
    refine mJ_ialdN dX8_closes_52 rfl (j := 148 + (p + k) + 1) ⟨by simp only [← nI_add]; rfl, by omega, by decide⟩ ?_
    refine mJ_iastN dX8_closes_53 rfl (j := 148 + (p + k)) ⟨by simp only [← nI_add]; rfl, by omega, by decide⟩ (h2 := mH _ _ _ _ _ _ _ _ _ _ _ _ _ _ _ _ _ _ _ _ _) rfl ?_
    refine mJ_iinc dX8_closes_54 rfl (Nat.le_of_ble_eq_true rfl) (v := nI (p + (k + 1))) (nI_1 (p + k)) (ls2 := [_, _, _, _]) rfl ?_
    refine mJ_goto 20 dX8_closes_57 rfl ?_
    rw [shO_s]
    exact ih (k + 1) (by omega)
set_option maxHeartbeats 4000000 in
set_option maxRecDepth 100000 in
theorem C_X8_closes {d was text ord why son tri : aF} {sta typ at_ sig fst snd rea lef top shf arr goo shn trs : Int32} {n1 p h : Nat} (hO : d 147 = nI (n1 + 1)) (hn1 : n1 ≤ 11) (hh : h < 12) (hp : p ≤ n1) (hp1 : pO d (nI h) (n1 + 1) 0 = nI p) : mCt k_X8_closes [.ref 0, .int (nI h)] (mH d was sta text typ at_ sig fst snd rea lef top shf arr goo ord why son shn tri trs) none (mH (upd (shO (upd d 147 (nI n1)) p (n1 - p)) (160 + h) (-1)) was sta text typ at_ sig fst snd rea lef top shf arr goo ord why son shn tri trs) := by
  refine mCt_intro (plainFor_of_name rfl) (Nat.le_of_ble_eq_true rfl) (m_all rfl) (ls := [_, _, _, _]) rfl ?_
  refine mJ_aload_n dX8_closes_0 rfl ?_
  refine mJ_iload_n dX8_closes_1 rfl ?_
  refine mJ_cV1i dX8_closes_2 e_X8_placeOf n_X8_144 ⟨Nat.le_of_ble_eq_true rfl, Nat.le_of_ble_eq_true rfl⟩ rfl rfl (Nat.le_of_ble_eq_true rfl) (C_X8_placeOf hO (by omega)) ?_
  refine mJ_top hp1 ?_
  refine mJ_istore_n dX8_closes_5 (Nat.le_of_ble_eq_true rfl) (ls2 := [_, _, _, _]) rfl ?_
  refine mJ_aload_n dX8_closes_6 rfl ?_
  refine mJ_get dX8_closes_7 f_X8_7 rfl rfl ?_
  refine mJ_sipush (v := 147) dX8_closes_10 rfl ?_
  refine mJ_dup2 dX8_closes_13 rfl rfl ?_
  refine mJ_ialdN dX8_closes_14 rfl (j := 147) ⟨rfl, by decide, by decide⟩ ?_
  refine mJ_top hO ?_
  refine mJ_iconst (v := 1) dX8_closes_15 rfl ?_
  refine mJ_isub dX8_closes_16 ?_
  refine mJ_top (nI_pred n1) ?_
  refine mJ_iastN dX8_closes_17 rfl (j := 147) ⟨rfl, by decide, by decide⟩ (h2 := mH _ _ _ _ _ _ _ _ _ _ _ _ _ _ _ _ _ _ _ _ _) rfl ?_
  refine mJ_iload_n dX8_closes_18 rfl ?_
  refine mJ_istore_n dX8_closes_19 (Nat.le_of_ble_eq_true rfl) (ls2 := [_, _, _, _]) rfl ?_
  have h0 := L_X8_closes (was := was) (sta := sta) (text := text) (typ := typ) (at_ := at_) (sig := sig) (fst := fst) (snd := snd) (rea := rea) (lef := lef) (top := top) (shf := shf) (arr := arr) (goo := goo) (ord := ord) (why := why) (son := son) (shn := shn) (tri := tri) (trs := trs) (d0 := upd d 147 (nI n1)) (x2 := nI p) (upd_at _ _ _) hn1 hh hp (n1 - p) 0 (by omega)
  rw [shO_0] at h0
  exact h0
