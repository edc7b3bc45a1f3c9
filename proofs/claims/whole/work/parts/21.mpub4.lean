/-! THE REFERENCE: the hint at a point; the least size; counts -/
/-- the first shown hint from k on that has the point -/
noncomputable def aT (d on : aF) (x y : Int32) : Nat → Nat → Int32
  | 0, _ => -10004
  | m + 1, k => iif (¬ on k = -1 ∧ q_mt x y 1 1 (p_x d k (on k)) (p_y d k (on k)) (dH d k 1) (dH d k 2)) (nI k) (aT d on x y m (k + 1))
theorem aT_congr {d on on' : aF} {x y : Int32} : ∀ {m k : Nat}, (∀ j, j < k + m → on j = on' j) → aT d on x y m k = aT d on' x y m k
  | 0, _, _ => rfl
  | m + 1, k, h => by
    unfold aT
    rw [h k (by omega), aT_congr (m := m) (k := k + 1) (fun j hj => h j (by omega))]
set_option maxHeartbeats 4000000 in
set_option maxRecDepth 100000 in
theorem C_X8_at_bad {d was text ord why son tri : aF} {sta typ at_ sig fst snd rea lef top shf arr goo shn trs : Int32} {x y : Int32} (hb : ¬ (q_rg x (-3000) 3000 ∧ q_rg y (-3000) 3000)) : mCt k_X8_at [.ref 0, .int x, .int y] (mH d was sta text typ at_ sig fst snd rea lef top shf arr goo ord why son shn tri trs) (some (.int (-10001))) (mH d was sta text typ at_ sig fst snd rea lef top shf arr goo ord why son shn tri trs) := by
  refine mCt_intro (plainFor_of_name rfl) (Nat.le_of_ble_eq_true rfl) (m_all rfl) (ls := [_, _, _, _]) rfl ?_
  refine mJ_iload_n dX8_at_0 rfl ?_
  refine mJ_sipush (v := (-3000)) dX8_at_1 rfl ?_
  refine mJ_sipush (v := 3000) dX8_at_4 rfl ?_
  refine mJ_cS3i dX8_at_7 e_X8_in n_X8_32 ⟨Nat.le_of_ble_eq_true rfl, Nat.le_of_ble_eq_true rfl⟩ (Nat.le_of_ble_eq_true rfl) (C_X8_in) ?_
  refine mJ_b2i (fun b_7 => ?_) (fun b_7 => ?_)
  · refine mJ_if_eq 26 dX8_at_10 rfl (fun c => absurd c (by decide)) (fun _ => ?_)
    refine mJ_iload_n dX8_at_13 rfl ?_
    refine mJ_sipush (v := (-3000)) dX8_at_14 rfl ?_
    refine mJ_sipush (v := 3000) dX8_at_17 rfl ?_
    refine mJ_cS3i dX8_at_20 e_X8_in n_X8_32 ⟨Nat.le_of_ble_eq_true rfl, Nat.le_of_ble_eq_true rfl⟩ (Nat.le_of_ble_eq_true rfl) (C_X8_in) ?_
    refine mJ_b2i (fun b_20 => ?_) (fun b_20 => ?_)
    · exact False.elim (by exact hb ⟨b_7, b_20⟩)
    · refine mJ_if_ne 30 dX8_at_23 rfl (fun c => absurd c (by decide)) (fun _ => ?_)
      refine mJ_sipush (v := (-10001)) dX8_at_26 rfl ?_
      exact mJ_iret dX8_at_29 rfl (rfl) (rfl)
  · refine mJ_if_eq 26 dX8_at_10 rfl (fun _ => ?_) (fun c => absurd c (by decide))
    refine mJ_sipush (v := (-10001)) dX8_at_26 rfl ?_
    exact mJ_iret dX8_at_29 rfl (rfl) (rfl)
set_option maxHeartbeats 4000000 in
set_option maxRecDepth 100000 in
theorem L_X8_at {d was text ord why son tri : aF} {sta typ at_ sig fst snd rea shn trs : Int32} {nA nH nO : Nat} (hw : wD d nA nH nO) (hon : ∀ o, o < nH → son o = -1 ∨ sd (son o)) {x y : Int32} : ∀ (m k : Nat) (lef top shf arr goo : Int32), k + m = nH → ∃ lef' top' shf' arr' goo' : Int32, mJ k_X8_at 36 [.ref 0, .int x, .int y, .int (nI k)] [] (mH d was sta text typ at_ sig fst snd rea lef top shf arr goo ord why son shn tri trs) (some (.int (aT d son x y m k))) (mH d was sta text typ at_ sig fst snd rea (lef') (top') (shf') (arr') (goo') ord why son shn tri trs) := by
  obtain ⟨w1, w2, w3, w4, w5, w6, w7, w8, w9, w10⟩ := id hw
  intro m
  induction m with
  | zero =>
    intro k lef top shf arr goo hk
    refine ⟨lef, top, shf, arr, goo, ?_⟩
    refine mJ_iload_n dX8_at_36 rfl ?_
    refine mJ_aload_n dX8_at_37 rfl ?_
    refine mJ_get dX8_at_38 f_X8_7 rfl rfl ?_
    refine mJ_bipush (v := 50) dX8_at_41 rfl ?_
    refine mJ_ialdN dX8_at_43 rfl (j := 50) ⟨rfl, by decide, by decide⟩ ?_
    refine mJ_icmp_ge 106 dX8_at_44 rfl (fun c_44 => ?_) (fun c_44 => False.elim (by exact c_44 (by rw [w5, show k = nH by omega]; exact Int32.le_refl _)))
    refine mJ_sipush (v := (-10004)) dX8_at_106 rfl ?_
    exact mJ_iret dX8_at_109 rfl (rfl) (rfl)
  | succ m ih =>
    intro k lef top shf arr goo hk
    have hk1 : k < nH := by omega
    obtain ⟨a, ha1, ha2⟩ := w7 k hk1
    have hh : k < 12 := by omega
    by_cases g1 : son k = -1
    · obtain ⟨l1, t1, s1, a1, o1, hj⟩ := ih (k + 1) lef top shf arr goo (by omega)
      rw [show aT d son x y (m + 1) k = aT d son x y m (k + 1) from iif_f (fun z => z.1 g1)]
      refine ⟨l1, t1, s1, a1, o1, ?_⟩
      refine mJ_iload_n dX8_at_36 rfl ?_
      refine mJ_aload_n dX8_at_37 rfl ?_
      refine mJ_get dX8_at_38 f_X8_7 rfl rfl ?_
      refine mJ_bipush (v := 50) dX8_at_41 rfl ?_
      refine mJ_ialdN dX8_at_43 rfl (j := 50) ⟨rfl, by decide, by decide⟩ ?_
      refine mJ_icmp_ge 106 dX8_at_44 rfl (fun c_44 => False.elim (by rw [w5] at c_44; exact nI_ge hk1 (by omega) c_44)) (fun c_44 => ?_)
      refine mJ_aload_n dX8_at_47 rfl ?_
      refine mJ_get dX8_at_48 f_X8_26 rfl rfl ?_
      refine mJ_iload_n dX8_at_51 rfl ?_
      refine mJ_ialdN dX8_at_52 rfl (j := k) ⟨rfl, by omega, by omega⟩ ?_
      refine mJ_iconst (v := (-1)) dX8_at_53 rfl ?_
      refine mJ_icmp_eq 100 dX8_at_54 rfl (fun c_54 => ?_) (fun c_54 => False.elim (by exact c_54 g1))
      refine mJ_iinc dX8_at_100 rfl (Nat.le_of_ble_eq_true rfl) (v := nI (k + 1)) (nI_1 k) (ls2 := [_, _, _, _]) rfl ?_
      refine mJ_goto 36 dX8_at_103 rfl ?_
      exact hj
    · by_cases g2 : q_mt x y 1 1 (p_x d k (son k)) (p_y d k (son k)) (dH d k 1) (dH d k 2)
      · have hs := (hon k hk1).resolve_left g1
        rw [show aT d son x y (m + 1) k = nI k from iif_t ⟨g1, g2⟩]
        refine ⟨p_x d k (son k), p_y d k (son k), p_sh d k (son k), p_ar d k (son k), b2i (p_gd d k (son k)), ?_⟩
        refine mJ_iload_n dX8_at_36 rfl ?_
        refine mJ_aload_n dX8_at_37 rfl ?_
        refine mJ_get dX8_at_38 f_X8_7 rfl rfl ?_
        refine mJ_bipush (v := 50) dX8_at_41 rfl ?_
        refine mJ_ialdN dX8_at_43 rfl (j := 50) ⟨rfl, by decide, by decide⟩ ?_
        refine mJ_icmp_ge 106 dX8_at_44 rfl (fun c_44 => False.elim (by rw [w5] at c_44; exact nI_ge hk1 (by omega) c_44)) (fun c_44 => ?_)
        refine mJ_aload_n dX8_at_47 rfl ?_
        refine mJ_get dX8_at_48 f_X8_26 rfl rfl ?_
        refine mJ_iload_n dX8_at_51 rfl ?_
        refine mJ_ialdN dX8_at_52 rfl (j := k) ⟨rfl, by omega, by omega⟩ ?_
        refine mJ_iconst (v := (-1)) dX8_at_53 rfl ?_
        refine mJ_icmp_eq 100 dX8_at_54 rfl (fun c_54 => False.elim (by exact g1 c_54)) (fun c_54 => ?_)
        refine mJ_aload_n dX8_at_57 rfl ?_
        refine mJ_iload_n dX8_at_58 rfl ?_
        refine mJ_aload_n dX8_at_59 rfl ?_
        refine mJ_get dX8_at_60 f_X8_26 rfl rfl ?_
        refine mJ_iload_n dX8_at_63 rfl ?_
        refine mJ_ialdN dX8_at_64 rfl (j := k) ⟨rfl, by omega, by omega⟩ ?_
        refine mJ_cV2v dX8_at_65 e_X8_places n_X8_79 ⟨Nat.le_of_ble_eq_true rfl, Nat.le_of_ble_eq_true rfl⟩ rfl rfl (Nat.le_of_ble_eq_true rfl) (C_X8_places hs hh ha2 (by omega)) ?_
        refine mJ_iload_n dX8_at_68 rfl ?_
        refine mJ_iload_n dX8_at_69 rfl ?_
        refine mJ_iconst (v := 1) dX8_at_70 rfl ?_
        refine mJ_iconst (v := 1) dX8_at_71 rfl ?_
        refine mJ_aload_n dX8_at_72 rfl ?_
        refine mJ_get dX8_at_73 f_X8_73 rfl rfl ?_
        refine mJ_aload_n dX8_at_76 rfl ?_
        refine mJ_get dX8_at_77 f_X8_76 rfl rfl ?_
        refine mJ_aload_n dX8_at_80 rfl ?_
        refine mJ_iload_n dX8_at_81 rfl ?_
        refine mJ_iconst (v := 1) dX8_at_82 rfl ?_
        refine mJ_cV2i dX8_at_83 e_X8_ofHint n_X8_52 ⟨Nat.le_of_ble_eq_true rfl, Nat.le_of_ble_eq_true rfl⟩ rfl rfl (Nat.le_of_ble_eq_true rfl) (C_X8_ofHint (w := 1) hh (by decide)) ?_
        refine mJ_aload_n dX8_at_86 rfl ?_
        refine mJ_iload_n dX8_at_87 rfl ?_
        refine mJ_iconst (v := 2) dX8_at_88 rfl ?_
        refine mJ_cV2i dX8_at_89 e_X8_ofHint n_X8_52 ⟨Nat.le_of_ble_eq_true rfl, Nat.le_of_ble_eq_true rfl⟩ rfl rfl (Nat.le_of_ble_eq_true rfl) (C_X8_ofHint (w := 2) hh (by decide)) ?_
        refine mJ_cS8i dX8_at_92 e_X8_meets n_X8_44 ⟨Nat.le_of_ble_eq_true rfl, Nat.le_of_ble_eq_true rfl⟩ (Nat.le_of_ble_eq_true rfl) (C_X8_meets) ?_
        refine mJ_top (b2i_t g2) ?_
        refine mJ_if_eq 100 dX8_at_95 rfl (fun c => absurd c (by decide)) (fun _ => ?_)
        refine mJ_iload_n dX8_at_98 rfl ?_
        exact mJ_iret dX8_at_99 rfl (rfl) (rfl)
      · have hs := (hon k hk1).resolve_left g1
        obtain ⟨l1, t1, s1, a1, o1, hj⟩ := ih (k + 1) (p_x d k (son k)) (p_y d k (son k)) (p_sh d k (son k)) (p_ar d k (son k)) (b2i (p_gd d k (son k))) (by omega)
        rw [show aT d son x y (m + 1) k = aT d son x y m (k + 1) from iif_f (fun z => g2 z.2)]
        refine ⟨l1, t1, s1, a1, o1, ?_⟩
        refine mJ_iload_n dX8_at_36 rfl ?_
        refine mJ_aload_n dX8_at_37 rfl ?_
        refine mJ_get dX8_at_38 f_X8_7 rfl rfl ?_
        refine mJ_bipush (v := 50) dX8_at_41 rfl ?_
        refine mJ_ialdN dX8_at_43 rfl (j := 50) ⟨rfl, by decide, by decide⟩ ?_
        refine mJ_icmp_ge 106 dX8_at_44 rfl (fun c_44 => False.elim (by rw [w5] at c_44; exact nI_ge hk1 (by omega) c_44)) (fun c_44 => ?_)
        refine mJ_aload_n dX8_at_47 rfl ?_
        refine mJ_get dX8_at_48 f_X8_26 rfl rfl ?_
        refine mJ_iload_n dX8_at_51 rfl ?_
        refine mJ_ialdN dX8_at_52 rfl (j := k) ⟨rfl, by omega, by omega⟩ ?_
        refine mJ_iconst (v := (-1)) dX8_at_53 rfl ?_
        refine mJ_icmp_eq 100 dX8_at_54 rfl (fun c_54 => False.elim (by exact g1 c_54)) (fun c_54 => ?_)
        refine mJ_aload_n dX8_at_57 rfl ?_
        refine mJ_iload_n dX8_at_58 rfl ?_
        refine mJ_aload_n dX8_at_59 rfl ?_
        refine mJ_get dX8_at_60 f_X8_26 rfl rfl ?_
        refine mJ_iload_n dX8_at_63 rfl ?_
        refine mJ_ialdN dX8_at_64 rfl (j := k) ⟨rfl, by omega, by omega⟩ ?_
        refine mJ_cV2v dX8_at_65 e_X8_places n_X8_79 ⟨Nat.le_of_ble_eq_true rfl, Nat.le_of_ble_eq_true rfl⟩ rfl rfl (Nat.le_of_ble_eq_true rfl) (C_X8_places hs hh ha2 (by omega)) ?_
        refine mJ_iload_n dX8_at_68 rfl ?_
        refine mJ_iload_n dX8_at_69 rfl ?_
        refine mJ_iconst (v := 1) dX8_at_70 rfl ?_
        refine mJ_iconst (v := 1) dX8_at_71 rfl ?_
        refine mJ_aload_n dX8_at_72 rfl ?_
        refine mJ_get dX8_at_73 f_X8_73 rfl rfl ?_
        refine mJ_aload_n dX8_at_76 rfl ?_
        refine mJ_get dX8_at_77 f_X8_76 rfl rfl ?_
        refine mJ_aload_n dX8_at_80 rfl ?_
        refine mJ_iload_n dX8_at_81 rfl ?_
        refine mJ_iconst (v := 1) dX8_at_82 rfl ?_
        refine mJ_cV2i dX8_at_83 e_X8_ofHint n_X8_52 ⟨Nat.le_of_ble_eq_true rfl, Nat.le_of_ble_eq_true rfl⟩ rfl rfl (Nat.le_of_ble_eq_true rfl) (C_X8_ofHint (w := 1) hh (by decide)) ?_
        refine mJ_aload_n dX8_at_86 rfl ?_
        refine mJ_iload_n dX8_at_87 rfl ?_
        refine mJ_iconst (v := 2) dX8_at_88 rfl ?_
        refine mJ_cV2i dX8_at_89 e_X8_ofHint n_X8_52 ⟨Nat.le_of_ble_eq_true rfl, Nat.le_of_ble_eq_true rfl⟩ rfl rfl (Nat.le_of_ble_eq_true rfl) (C_X8_ofHint (w := 2) hh (by decide)) ?_
        refine mJ_cS8i dX8_at_92 e_X8_meets n_X8_44 ⟨Nat.le_of_ble_eq_true rfl, Nat.le_of_ble_eq_true rfl⟩ (Nat.le_of_ble_eq_true rfl) (C_X8_meets) ?_
        refine mJ_top (b2i_f g2) ?_
        refine mJ_if_eq 100 dX8_at_95 rfl (fun _ => ?_) (fun c => absurd c (by decide))
        refine mJ_iinc dX8_at_100 rfl (Nat.le_of_ble_eq_true rfl) (v := nI (k + 1)) (nI_1 k) (ls2 := [_, _, _, _]) rfl ?_
        refine mJ_goto 36 dX8_at_103 rfl ?_
        exact hj
set_option maxHeartbeats 4000000 in
set_option maxRecDepth 100000 in
theorem C_X8_at {d was text ord why son tri : aF} {sta typ at_ sig fst snd rea lef top shf arr goo shn trs : Int32} {nA nH nO : Nat} (hw : wD d nA nH nO) (hi : wI d nO) (hon : ∀ o, o < nH → ((p_all d nA nH nO).2.1) o = -1 ∨ sd (((p_all d nA nH nO).2.1) o)) {x y : Int32} (h1 : q_rg x (-3000) 3000) (h2 : q_rg y (-3000) 3000) : ∃ (lef' top' shf' arr' goo' : Int32) (ord' why' son' tri' : aF) (trs' : Int32), mCt k_X8_at [.ref 0, .int x, .int y] (mH d was sta text typ at_ sig fst snd rea lef top shf arr goo ord why son shn tri trs) (some (.int (aT d ((p_all d nA nH nO).2.1) x y nH 0))) (mH (d) was sta text typ at_ sig fst snd rea (lef') (top') (shf') (arr') (goo') (ord') (why') (son') ((p_all (d) nA nH nO).2.2) (tri') (trs')) := by
  obtain ⟨l1, t1, s1, a1, o1, d1, y1, n1, r1, z1, e1, e2, e3, hj⟩ := C_X8_shows (d := d) (was := was) (sta := sta) (shn := shn) (text := text) (typ := typ) (at_ := at_) (sig := sig) (fst := fst) (snd := snd) (rea := rea) (lef := lef) (top := top) (shf := shf) (arr := arr) (goo := goo) (ord := ord) (why := why) (son := son) (tri := tri) (trs := trs) hw hi
  have w2 : nH ≤ 12 := hw.2.1
  have hon1 : ∀ o, o < nH → n1 o = -1 ∨ sd (n1 o) := fun o ho => by rw [e3 o (by omega)]; exact hon o ho
  obtain ⟨l2, t2, s2, a2, o2, hq⟩ := L_X8_at (was := was) (sta := sta) (text := text) (typ := typ) (at_ := at_) (sig := sig) (fst := fst) (snd := snd) (rea := rea) (ord := d1) (why := y1) (shn := (p_all d nA nH nO).2.2) (tri := r1) (trs := z1) hw hon1 (x := x) (y := y) nH 0 l1 t1 s1 a1 o1 (by omega)
  rw [aT_congr (m := nH) (k := 0) (on' := ((p_all d nA nH nO).2.1)) (fun j hj => e3 j (by omega))] at hq
  refine ⟨l2, t2, s2, a2, o2, d1, y1, n1, r1, z1, ?_⟩
  refine mCt_intro (plainFor_of_name rfl) (Nat.le_of_ble_eq_true rfl) (m_all rfl) (ls := [_, _, _, _]) rfl ?_
  refine mJ_iload_n dX8_at_0 rfl ?_
  refine mJ_sipush (v := (-3000)) dX8_at_1 rfl ?_
  refine mJ_sipush (v := 3000) dX8_at_4 rfl ?_
  refine mJ_cS3i dX8_at_7 e_X8_in n_X8_32 ⟨Nat.le_of_ble_eq_true rfl, Nat.le_of_ble_eq_true rfl⟩ (Nat.le_of_ble_eq_true rfl) (C_X8_in) ?_
  refine mJ_top (b2i_t h1) ?_
  refine mJ_if_eq 26 dX8_at_10 rfl (fun c => absurd c (by decide)) (fun _ => ?_)
  refine mJ_iload_n dX8_at_13 rfl ?_
  refine mJ_sipush (v := (-3000)) dX8_at_14 rfl ?_
  refine mJ_sipush (v := 3000) dX8_at_17 rfl ?_
  refine mJ_cS3i dX8_at_20 e_X8_in n_X8_32 ⟨Nat.le_of_ble_eq_true rfl, Nat.le_of_ble_eq_true rfl⟩ (Nat.le_of_ble_eq_true rfl) (C_X8_in) ?_
  refine mJ_top (b2i_t h2) ?_
  refine mJ_if_ne 30 dX8_at_23 rfl (fun _ => ?_) (fun c => absurd c (by decide))
  refine mJ_aload_n dX8_at_30 rfl ?_
  refine mJ_cV0v dX8_at_31 e_X8_shows n_X8_112 ⟨Nat.le_of_ble_eq_true rfl, Nat.le_of_ble_eq_true rfl⟩ rfl rfl (Nat.le_of_ble_eq_true rfl) (hj) ?_
  refine mJ_iconst (v := 0) dX8_at_34 rfl ?_
  refine mJ_istore_n dX8_at_35 (Nat.le_of_ble_eq_true rfl) (ls2 := [_, _, _, _]) rfl ?_
  exact hq
set_option maxHeartbeats 4000000 in
set_option maxRecDepth 100000 in
theorem C_X8_sizeFor_bad {d was text ord why son tri : aF} {sta typ at_ sig fst snd rea lef top shf arr goo shn trs : Int32} {h w : Int32} (hb : ¬ (q_rg h 0 (d 50 - 1) ∧ q_rg w 0 1)) : mCt k_X8_sizeFor [.ref 0, .int h, .int w] (mH d was sta text typ at_ sig fst snd rea lef top shf arr goo ord why son shn tri trs) (some (.int (-10001))) (mH d was sta text typ at_ sig fst snd rea lef top shf arr goo ord why son shn tri trs) := by
  refine mCt_intro (plainFor_of_name rfl) (Nat.le_of_ble_eq_true rfl) (m_all rfl) (ls := [_, _, _, _, _, _, _]) rfl ?_
  refine mJ_aload_n dX8_sizeFor_0 rfl ?_
  refine mJ_iload_n dX8_sizeFor_1 rfl ?_
  refine mJ_cV1i dX8_sizeFor_2 e_X8_isHint n_X8_138 ⟨Nat.le_of_ble_eq_true rfl, Nat.le_of_ble_eq_true rfl⟩ rfl rfl (Nat.le_of_ble_eq_true rfl) (C_X8_isHint) ?_
  refine mJ_b2i (fun b_2 => ?_) (fun b_2 => ?_)
  · refine mJ_if_eq 17 dX8_sizeFor_5 rfl (fun c => absurd c (by decide)) (fun _ => ?_)
    refine mJ_iload_n dX8_sizeFor_8 rfl ?_
    refine mJ_iconst (v := 0) dX8_sizeFor_9 rfl ?_
    refine mJ_iconst (v := 1) dX8_sizeFor_10 rfl ?_
    refine mJ_cS3i dX8_sizeFor_11 e_X8_in n_X8_32 ⟨Nat.le_of_ble_eq_true rfl, Nat.le_of_ble_eq_true rfl⟩ (Nat.le_of_ble_eq_true rfl) (C_X8_in) ?_
    refine mJ_b2i (fun b_11 => ?_) (fun b_11 => ?_)
    · exact False.elim (by exact hb ⟨b_2, b_11⟩)
    · refine mJ_if_ne 21 dX8_sizeFor_14 rfl (fun c => absurd c (by decide)) (fun _ => ?_)
      refine mJ_sipush (v := (-10001)) dX8_sizeFor_17 rfl ?_
      exact mJ_iret dX8_sizeFor_20 rfl (rfl) (rfl)
  · refine mJ_if_eq 17 dX8_sizeFor_5 rfl (fun _ => ?_) (fun c => absurd c (by decide))
    refine mJ_sipush (v := (-10001)) dX8_sizeFor_17 rfl ?_
    exact mJ_iret dX8_sizeFor_20 rfl (rfl) (rfl)
/-- is a hint in sight on one of the sides, with size v at place w of the view -/
def sI (d : aF) (h w : Nat) (v : Int32) (L : List Int32) : Prop := ∃ s ∈ L, p_in (upd d (2 + w) v) h s
noncomputable def sF (d : aF) (h w : Nat) (L : List Int32) : Nat → Nat → Int32
  | 0, _ => -10004
  | m + 1, k => iif (sI d h w (nI k) L) (nI k) (sF d h w L m (k + 1))
set_option maxHeartbeats 4000000 in
set_option maxRecDepth 100000 in
theorem L_X8_sizeFor_in {d was text ord why son tri : aF} {sta typ at_ sig fst snd rea shn trs : Int32} {h w a : Nat} (hh : h < 12) (hw2 : w < 2) (ha0 : dH d h 0 = nI a) (ha : a < 10) {L : List Int32} (hT : tU (tri, trs) L) (hL : ∀ s ∈ L, sd s) {x3 v : Int32} : ∀ (m k : Nat) (f lef top shf arr goo : Int32), k + m = L.length → ∃ l1 t1 s1 a1 o1 : Int32, ∀ (r : Option Value) (H : List mC), mJ k_X8_sizeFor 112 [.ref 0, .int (nI h), .int (nI w), .int x3, .int (iif (∃ s ∈ L.drop k, p_in (upd d (2 + w) v) h s) v f), .int v, .int (nI L.length)] [] (mH (upd d (2 + w) v) was sta text typ at_ sig fst snd rea (l1) (t1) (s1) (a1) (o1) ord why son shn tri trs) r H → mJ k_X8_sizeFor 73 [.ref 0, .int (nI h), .int (nI w), .int x3, .int f, .int v, .int (nI k)] [] (mH (upd d (2 + w) v) was sta text typ at_ sig fst snd rea lef top shf arr goo ord why son shn tri trs) r H := by
  have ht : trs = nI L.length := hT.1
  have hT5 := hT.2.1
  intro m
  induction m with
  | zero =>
    intro k f lef top shf arr goo hk
    have hk1 : k = L.length := by omega
    subst hk1
    refine ⟨lef, top, shf, arr, goo, fun r H kk => ?_⟩
    rw [show iif (∃ s ∈ L.drop L.length, p_in (upd d (2 + w) v) h s) v f = f from iif_f (fun z => by rw [List.drop_length] at z; obtain ⟨s, hs, -⟩ := z; cases hs)] at kk
    refine mJ_iload dX8_sizeFor_73 rfl ?_
    refine mJ_aload_n dX8_sizeFor_75 rfl ?_
    refine mJ_get dX8_sizeFor_76 f_X8_83 rfl rfl ?_
    refine mJ_icmp_ge 112 dX8_sizeFor_79 rfl (fun c_79 => ?_) (fun c_79 => False.elim (by exact c_79 (by rw [ht]; exact Int32.le_refl _)))
    exact kk
  | succ m ih =>
    intro k f lef top shf arr goo hk
    have hk1 : k < L.length := by omega
    obtain ⟨s, hs1⟩ : ∃ s, L[k]? = some s := ⟨_, List.getElem?_eq_getElem hk1⟩
    have hss : sd s := hL s (List.mem_of_getElem? hs1)
    have htk : tri k = s := hT.2.2 k s hs1
    have hd : L.drop k = s :: L.drop (k + 1) := by
      rw [List.drop_eq_getElem_cons hk1]
      congr 1
      exact (List.getElem?_eq_some_iff.mp hs1).2
    rw [hd]
    have hda : dH (upd d (2 + w) v) h 0 = nI a := by unfold dH; rw [upd_ne (by omega)]; exact ha0
    by_cases g1 : p_in (upd d (2 + w) v) h s
    · obtain ⟨l1, t1, s1, a1, o1, hq⟩ := ih (k + 1) v (p_x (upd d (2 + w) v) h s) (p_y (upd d (2 + w) v) h s) (p_sh (upd d (2 + w) v) h s) (p_ar (upd d (2 + w) v) h s) (b2i (p_gd (upd d (2 + w) v) h s)) (by omega)
      refine ⟨l1, t1, s1, a1, o1, fun r H kk => ?_⟩
      rw [show iif (∃ s_1 ∈ s :: L.drop (k + 1), p_in (upd d (2 + w) v) h s_1) v f = v from iif_t ⟨s, List.mem_cons_self, g1⟩] at kk
      rw [show iif (∃ s ∈ L.drop (k + 1), p_in (upd d (2 + w) v) h s) v v = v by by_cases q : (∃ s ∈ L.drop (k + 1), p_in (upd d (2 + w) v) h s); exact iif_t q; exact iif_f q] at hq
      refine mJ_iload dX8_sizeFor_73 rfl ?_
      refine mJ_aload_n dX8_sizeFor_75 rfl ?_
      refine mJ_get dX8_sizeFor_76 f_X8_83 rfl rfl ?_
      refine mJ_icmp_ge 112 dX8_sizeFor_79 rfl (fun c_79 => False.elim (by rw [ht] at c_79; exact nI_ge hk1 (by omega) c_79)) (fun c_79 => ?_)
      refine mJ_aload_n dX8_sizeFor_82 rfl ?_
      refine mJ_iload_n dX8_sizeFor_83 rfl ?_
      refine mJ_aload_n dX8_sizeFor_84 rfl ?_
      refine mJ_get dX8_sizeFor_85 f_X8_29 rfl rfl ?_
      refine mJ_iload dX8_sizeFor_88 rfl ?_
      refine mJ_ialdN dX8_sizeFor_90 rfl (j := k) ⟨rfl, by omega, by omega⟩ ?_
      refine mJ_top htk ?_
      refine mJ_cV2i dX8_sizeFor_91 e_X8_isIn n_X8_93 ⟨Nat.le_of_ble_eq_true rfl, Nat.le_of_ble_eq_true rfl⟩ rfl rfl (Nat.le_of_ble_eq_true rfl) (C_X8_isIn hss hh hda ha) ?_
      refine mJ_top (b2i_t g1) ?_
      refine mJ_if_eq 102 dX8_sizeFor_94 rfl (fun c => absurd c (by decide)) (fun _ => ?_)
      refine mJ_iload dX8_sizeFor_97 rfl ?_
      refine mJ_goto 104 dX8_sizeFor_99 rfl ?_
      refine mJ_istore dX8_sizeFor_104 (Nat.le_of_ble_eq_true rfl) (ls2 := [_, _, _, _, _, _, _]) rfl ?_
      refine mJ_iinc dX8_sizeFor_106 rfl (Nat.le_of_ble_eq_true rfl) (v := nI (k + 1)) (nI_1 k) (ls2 := [_, _, _, _, _, _, _]) rfl ?_
      refine mJ_goto 73 dX8_sizeFor_109 rfl ?_
      exact hq r H kk
    · obtain ⟨l1, t1, s1, a1, o1, hq⟩ := ih (k + 1) f (p_x (upd d (2 + w) v) h s) (p_y (upd d (2 + w) v) h s) (p_sh (upd d (2 + w) v) h s) (p_ar (upd d (2 + w) v) h s) (b2i (p_gd (upd d (2 + w) v) h s)) (by omega)
      refine ⟨l1, t1, s1, a1, o1, fun r H kk => ?_⟩
      rw [show (∃ s_1 ∈ s :: L.drop (k + 1), p_in (upd d (2 + w) v) h s_1) = (∃ s ∈ L.drop (k + 1), p_in (upd d (2 + w) v) h s) from propext ⟨fun ⟨z, z1, z2⟩ => (List.mem_cons.mp z1).elim (fun e => absurd (e ▸ z2) g1) (fun e => ⟨z, e, z2⟩), fun ⟨z, z1, z2⟩ => ⟨z, List.mem_cons_of_mem _ z1, z2⟩⟩] at kk
      refine mJ_iload dX8_sizeFor_73 rfl ?_
      refine mJ_aload_n dX8_sizeFor_75 rfl ?_
      refine mJ_get dX8_sizeFor_76 f_X8_83 rfl rfl ?_
      refine mJ_icmp_ge 112 dX8_sizeFor_79 rfl (fun c_79 => False.elim (by rw [ht] at c_79; exact nI_ge hk1 (by omega) c_79)) (fun c_79 => ?_)
      refine mJ_aload_n dX8_sizeFor_82 rfl ?_
      refine mJ_iload_n dX8_sizeFor_83 rfl ?_
      refine mJ_aload_n dX8_sizeFor_84 rfl ?_
      refine mJ_get dX8_sizeFor_85 f_X8_29 rfl rfl ?_
      refine mJ_iload dX8_sizeFor_88 rfl ?_
      refine mJ_ialdN dX8_sizeFor_90 rfl (j := k) ⟨rfl, by omega, by omega⟩ ?_
      refine mJ_top htk ?_
      refine mJ_cV2i dX8_sizeFor_91 e_X8_isIn n_X8_93 ⟨Nat.le_of_ble_eq_true rfl, Nat.le_of_ble_eq_true rfl⟩ rfl rfl (Nat.le_of_ble_eq_true rfl) (C_X8_isIn hss hh hda ha) ?_
      refine mJ_top (b2i_f g1) ?_
      refine mJ_if_eq 102 dX8_sizeFor_94 rfl (fun _ => ?_) (fun c => absurd c (by decide))
      refine mJ_iload dX8_sizeFor_102 rfl ?_
      refine mJ_istore dX8_sizeFor_104 (Nat.le_of_ble_eq_true rfl) (ls2 := [_, _, _, _, _, _, _]) rfl ?_
      refine mJ_iinc dX8_sizeFor_106 rfl (Nat.le_of_ble_eq_true rfl) (v := nI (k + 1)) (nI_1 k) (ls2 := [_, _, _, _, _, _, _]) rfl ?_
      refine mJ_goto 73 dX8_sizeFor_109 rfl ?_
      exact hq r H kk
set_option maxHeartbeats 4000000 in
set_option maxRecDepth 100000 in
theorem L_X8_sizeFor_end {d was text ord why son tri : aF} {sta typ at_ sig fst snd rea lef top shf arr goo shn trs : Int32} {h w : Nat} (hw2 : w < 2) {f z c : Int32} (hf : ¬ f = -10004) {x6 : Value} : mJ k_X8_sizeFor 44 [.ref 0, .int (nI h), .int (nI w), .int (d (2 + w)), .int f, .int z, x6] [] (mH (upd d (2 + w) c) was sta text typ at_ sig fst snd rea lef top shf arr goo ord why son shn tri trs) (some (.int f)) (mH d was sta text typ at_ sig fst snd rea lef top shf arr goo ord why son shn tri trs) := by
  refine mJ_iload dX8_sizeFor_44 rfl ?_
  refine mJ_sipush (v := 400) dX8_sizeFor_46 rfl ?_
  refine mJ_icmp_gt 118 dX8_sizeFor_49 rfl (fun c_49 => ?_) (fun c_49 => ?_)
  · refine mJ_aload_n dX8_sizeFor_118 rfl ?_
    refine mJ_get dX8_sizeFor_119 f_X8_7 rfl rfl ?_
    refine mJ_iconst (v := 2) dX8_sizeFor_122 rfl ?_
    refine mJ_iload_n dX8_sizeFor_123 rfl ?_
    refine mJ_iadd dX8_sizeFor_124 ?_
    refine mJ_iload_n dX8_sizeFor_125 rfl ?_
    refine mJ_iastN dX8_sizeFor_126 rfl (j := 2 + w) ⟨by simp only [← nI_add]; rfl, by omega, by decide⟩ (h2 := mH _ _ _ _ _ _ _ _ _ _ _ _ _ _ _ _ _ _ _ _ _) rfl ?_
    refine mJ_iload dX8_sizeFor_127 rfl ?_
    exact mJ_iret dX8_sizeFor_129 rfl (rfl) (by rw [upd_upd, upd_same rfl])
  · refine mJ_iload dX8_sizeFor_52 rfl ?_
    refine mJ_sipush (v := (-10004)) dX8_sizeFor_54 rfl ?_
    refine mJ_icmp_ne 118 dX8_sizeFor_57 rfl (fun c_57 => ?_) (fun c_57 => False.elim (by exact hf c_57))
    refine mJ_aload_n dX8_sizeFor_118 rfl ?_
    refine mJ_get dX8_sizeFor_119 f_X8_7 rfl rfl ?_
    refine mJ_iconst (v := 2) dX8_sizeFor_122 rfl ?_
    refine mJ_iload_n dX8_sizeFor_123 rfl ?_
    refine mJ_iadd dX8_sizeFor_124 ?_
    refine mJ_iload_n dX8_sizeFor_125 rfl ?_
    refine mJ_iastN dX8_sizeFor_126 rfl (j := 2 + w) ⟨by simp only [← nI_add]; rfl, by omega, by decide⟩ (h2 := mH _ _ _ _ _ _ _ _ _ _ _ _ _ _ _ _ _ _ _ _ _) rfl ?_
    refine mJ_iload dX8_sizeFor_127 rfl ?_
    exact mJ_iret dX8_sizeFor_129 rfl (rfl) (by rw [upd_upd, upd_same rfl])
theorem nI_neg1b {k : Nat} (h : k < 2 ^ 31) : ¬ nI k = -10004 := fun e => nI_pos h (by rw [e]; decide)
set_option maxHeartbeats 4000000 in
set_option maxRecDepth 100000 in
theorem L_X8_sizeFor {d was text ord why son tri : aF} {sta typ at_ sig fst snd rea shn trs : Int32} {h w a : Nat} (hh : h < 12) (hw2 : w < 2) (ha0 : dH d h 0 = nI a) (ha : a < 10) {L : List Int32} (hT : tU (tri, trs) L) (hL : ∀ s ∈ L, sd s) : ∀ (m k : Nat) (c : Int32) (x6 : Value) (lef top shf arr goo : Int32), k + m = 401 → ∃ lef' top' shf' arr' goo' : Int32, mJ k_X8_sizeFor 44 [.ref 0, .int (nI h), .int (nI w), .int (d (2 + w)), .int (-10004), .int (nI k), x6] [] (mH (upd d (2 + w) c) was sta text typ at_ sig fst snd rea lef top shf arr goo ord why son shn tri trs) (some (.int (sF d h w L m k))) (mH d was sta text typ at_ sig fst snd rea (lef') (top') (shf') (arr') (goo') ord why son shn tri trs) := by
  intro m
  induction m with
  | zero =>
    intro k c x6 lef top shf arr goo hk
    refine ⟨lef, top, shf, arr, goo, ?_⟩
    refine mJ_iload dX8_sizeFor_44 rfl ?_
    refine mJ_sipush (v := 400) dX8_sizeFor_46 rfl ?_
    refine mJ_icmp_gt 118 dX8_sizeFor_49 rfl (fun c_49 => ?_) (fun c_49 => False.elim (by exact c_49 (nI_lt (a := 400) (show 400 < k by omega) (by omega))))
    refine mJ_aload_n dX8_sizeFor_118 rfl ?_
    refine mJ_get dX8_sizeFor_119 f_X8_7 rfl rfl ?_
    refine mJ_iconst (v := 2) dX8_sizeFor_122 rfl ?_
    refine mJ_iload_n dX8_sizeFor_123 rfl ?_
    refine mJ_iadd dX8_sizeFor_124 ?_
    refine mJ_iload_n dX8_sizeFor_125 rfl ?_
    refine mJ_iastN dX8_sizeFor_126 rfl (j := 2 + w) ⟨by simp only [← nI_add]; rfl, by omega, by decide⟩ (h2 := mH _ _ _ _ _ _ _ _ _ _ _ _ _ _ _ _ _ _ _ _ _) rfl ?_
    refine mJ_iload dX8_sizeFor_127 rfl ?_
    exact mJ_iret dX8_sizeFor_129 rfl (rfl) (by rw [upd_upd, upd_same rfl])
  | succ m ih =>
    intro k c x6 lef top shf arr goo hk
    obtain ⟨l1, t1, s1, a1, o1, hq⟩ := L_X8_sizeFor_in (d := d) (was := was) (sta := sta) (text := text) (typ := typ) (at_ := at_) (sig := sig) (fst := fst) (snd := snd) (rea := rea) (ord := ord) (why := why) (son := son) (shn := shn) (tri := tri) (trs := trs) (x3 := d (2 + w)) (v := nI k) hh hw2 ha0 ha hT hL L.length 0 (-10004) lef top shf arr goo (by omega)
    rw [List.drop_zero] at hq
    by_cases g : sI d h w (nI k) L
    · rw [show iif (∃ s ∈ L, p_in (upd d (2 + w) (nI k)) h s) (nI k) (-10004) = nI k from iif_t g] at hq
      rw [show sF d h w L (m + 1) k = nI k from iif_t g]
      refine ⟨l1, t1, s1, a1, o1, ?_⟩
      refine mJ_iload dX8_sizeFor_44 rfl ?_
      refine mJ_sipush (v := 400) dX8_sizeFor_46 rfl ?_
      refine mJ_icmp_gt 118 dX8_sizeFor_49 rfl (fun c_49 => False.elim (by exact nI_nlt (a := 400) (show k ≤ 400 by omega) (by omega) c_49)) (fun c_49 => ?_)
      refine mJ_iload dX8_sizeFor_52 rfl ?_
      refine mJ_sipush (v := (-10004)) dX8_sizeFor_54 rfl ?_
      refine mJ_icmp_ne 118 dX8_sizeFor_57 rfl (fun c => absurd c (by decide)) (fun _ => ?_)
      refine mJ_aload_n dX8_sizeFor_60 rfl ?_
      refine mJ_get dX8_sizeFor_61 f_X8_7 rfl rfl ?_
      refine mJ_iconst (v := 2) dX8_sizeFor_64 rfl ?_
      refine mJ_iload_n dX8_sizeFor_65 rfl ?_
      refine mJ_iadd dX8_sizeFor_66 ?_
      refine mJ_iload dX8_sizeFor_67 rfl ?_
      refine mJ_iastN dX8_sizeFor_69 rfl (j := 2 + w) ⟨by simp only [← nI_add]; rfl, by omega, by decide⟩ (h2 := mH _ _ _ _ _ _ _ _ _ _ _ _ _ _ _ _ _ _ _ _ _) rfl ?_
      refine mJ_iconst (v := 0) dX8_sizeFor_70 rfl ?_
      refine mJ_istore dX8_sizeFor_71 (Nat.le_of_ble_eq_true rfl) (ls2 := [_, _, _, _, _, _, _]) rfl ?_
      rw [upd_upd]
      refine hq _ _ ?_
      refine mJ_iinc dX8_sizeFor_112 rfl (Nat.le_of_ble_eq_true rfl) (v := nI (k + 1)) (nI_1 k) (ls2 := [_, _, _, _, _, _, _]) rfl ?_
      refine mJ_goto 44 dX8_sizeFor_115 rfl ?_
      exact L_X8_sizeFor_end hw2 (nI_neg1b (by omega))
    · rw [show iif (∃ s ∈ L, p_in (upd d (2 + w) (nI k)) h s) (nI k) (-10004) = -10004 from iif_f g] at hq
      rw [show sF d h w L (m + 1) k = sF d h w L m (k + 1) from iif_f g]
      obtain ⟨l2, t2, s2, a2, o2, hj⟩ := ih (k + 1) (nI k) (.int (nI L.length)) l1 t1 s1 a1 o1 (by omega)
      refine ⟨l2, t2, s2, a2, o2, ?_⟩
      refine mJ_iload dX8_sizeFor_44 rfl ?_
      refine mJ_sipush (v := 400) dX8_sizeFor_46 rfl ?_
      refine mJ_icmp_gt 118 dX8_sizeFor_49 rfl (fun c_49 => False.elim (by exact nI_nlt (a := 400) (show k ≤ 400 by omega) (by omega) c_49)) (fun c_49 => ?_)
      refine mJ_iload dX8_sizeFor_52 rfl ?_
      refine mJ_sipush (v := (-10004)) dX8_sizeFor_54 rfl ?_
      refine mJ_icmp_ne 118 dX8_sizeFor_57 rfl (fun c => absurd c (by decide)) (fun _ => ?_)
      refine mJ_aload_n dX8_sizeFor_60 rfl ?_
      refine mJ_get dX8_sizeFor_61 f_X8_7 rfl rfl ?_
      refine mJ_iconst (v := 2) dX8_sizeFor_64 rfl ?_
      refine mJ_iload_n dX8_sizeFor_65 rfl ?_
      refine mJ_iadd dX8_sizeFor_66 ?_
      refine mJ_iload dX8_sizeFor_67 rfl ?_
      refine mJ_iastN dX8_sizeFor_69 rfl (j := 2 + w) ⟨by simp only [← nI_add]; rfl, by omega, by decide⟩ (h2 := mH _ _ _ _ _ _ _ _ _ _ _ _ _ _ _ _ _ _ _ _ _) rfl ?_
      refine mJ_iconst (v := 0) dX8_sizeFor_70 rfl ?_
      refine mJ_istore dX8_sizeFor_71 (Nat.le_of_ble_eq_true rfl) (ls2 := [_, _, _, _, _, _, _]) rfl ?_
      rw [upd_upd]
      refine hq _ _ ?_
      refine mJ_iinc dX8_sizeFor_112 rfl (Nat.le_of_ble_eq_true rfl) (v := nI (k + 1)) (nI_1 k) (ls2 := [_, _, _, _, _, _, _]) rfl ?_
      refine mJ_goto 44 dX8_sizeFor_115 rfl ?_
      exact hj
set_option maxHeartbeats 4000000 in
set_option maxRecDepth 100000 in
theorem C_X8_sizeFor {d was text ord why son tri : aF} {sta typ at_ sig fst snd rea lef top shf arr goo shn trs : Int32} {nA nH nO : Nat} (hw : wD d nA nH nO) {h w : Nat} (hhH : h < nH) (hw2 : w < 2) (h1 : q_rg (nI h) 0 (d 50 - 1)) (h2 : q_rg (nI w) 0 1) : ∃ (lef' top' shf' arr' goo' : Int32) (tri' : aF) (trs' : Int32), mCt k_X8_sizeFor [.ref 0, .int (nI h), .int (nI w)] (mH d was sta text typ at_ sig fst snd rea lef top shf arr goo ord why son shn tri trs) (some (.int (sF d h w (tryL d h) 381 20))) (mH d was sta text typ at_ sig fst snd rea (lef') (top') (shf') (arr') (goo') ord why son shn (tri') (trs')) := by
  obtain ⟨w1, w2, w3, w4, w5, w6, w7, w8, w9, w10⟩ := id hw
  have hh : h < 12 := by omega
  obtain ⟨a, ha1, ha2⟩ := w7 h hhH
  have hT := trU_ok tri (d (160 + h)) (dH d h 3) (dH d h 5) (d 7)
  have hE : (trU (tri, 0) (d (160 + h)) (dH d h 3) (dH d h 5) (d 7)).2 = tryL d h := trU_2 _ _ _ _ _ _
  rw [hE] at hT
  have hL := tryL_sd (w8 h hhH) (w9 h hhH)
  obtain ⟨l1, t1, s1, a1, o1, hj⟩ := L_X8_sizeFor (d := d) (was := was) (sta := sta) (text := text) (typ := typ) (at_ := at_) (sig := sig) (fst := fst) (snd := snd) (rea := rea) (ord := ord) (why := why) (son := son) (shn := shn) hh hw2 ha2 (by omega) hT hL 381 20 (d (2 + w)) .null lef top shf arr goo (by omega)
  rw [upd_same rfl] at hj
  refine ⟨l1, t1, s1, a1, o1, (trU (tri, 0) (d (160 + h)) (dH d h 3) (dH d h 5) (d 7)).1.1, (trU (tri, 0) (d (160 + h)) (dH d h 3) (dH d h 5) (d 7)).1.2, ?_⟩
  refine mCt_intro (plainFor_of_name rfl) (Nat.le_of_ble_eq_true rfl) (m_all rfl) (ls := [_, _, _, _, _, _, _]) rfl ?_
  refine mJ_aload_n dX8_sizeFor_0 rfl ?_
  refine mJ_iload_n dX8_sizeFor_1 rfl ?_
  refine mJ_cV1i dX8_sizeFor_2 e_X8_isHint n_X8_138 ⟨Nat.le_of_ble_eq_true rfl, Nat.le_of_ble_eq_true rfl⟩ rfl rfl (Nat.le_of_ble_eq_true rfl) (C_X8_isHint) ?_
  refine mJ_top (b2i_t h1) ?_
  refine mJ_if_eq 17 dX8_sizeFor_5 rfl (fun c => absurd c (by decide)) (fun _ => ?_)
  refine mJ_iload_n dX8_sizeFor_8 rfl ?_
  refine mJ_iconst (v := 0) dX8_sizeFor_9 rfl ?_
  refine mJ_iconst (v := 1) dX8_sizeFor_10 rfl ?_
  refine mJ_cS3i dX8_sizeFor_11 e_X8_in n_X8_32 ⟨Nat.le_of_ble_eq_true rfl, Nat.le_of_ble_eq_true rfl⟩ (Nat.le_of_ble_eq_true rfl) (C_X8_in) ?_
  refine mJ_top (b2i_t h2) ?_
  refine mJ_if_ne 21 dX8_sizeFor_14 rfl (fun _ => ?_) (fun c => absurd c (by decide))
  refine mJ_aload_n dX8_sizeFor_21 rfl ?_
  refine mJ_iload_n dX8_sizeFor_22 rfl ?_
  refine mJ_cV1v dX8_sizeFor_23 e_X8_lists n_X8_90 ⟨Nat.le_of_ble_eq_true rfl, Nat.le_of_ble_eq_true rfl⟩ rfl rfl (Nat.le_of_ble_eq_true rfl) (C_X8_lists hh) ?_
  refine mJ_aload_n dX8_sizeFor_26 rfl ?_
  refine mJ_get dX8_sizeFor_27 f_X8_7 rfl rfl ?_
  refine mJ_iconst (v := 2) dX8_sizeFor_30 rfl ?_
  refine mJ_iload_n dX8_sizeFor_31 rfl ?_
  refine mJ_iadd dX8_sizeFor_32 ?_
  refine mJ_ialdN dX8_sizeFor_33 rfl (j := 2 + w) ⟨by simp only [← nI_add]; rfl, by omega, by decide⟩ ?_
  refine mJ_istore_n dX8_sizeFor_34 (Nat.le_of_ble_eq_true rfl) (ls2 := [_, _, _, _, _, _, _]) rfl ?_
  refine mJ_sipush (v := (-10004)) dX8_sizeFor_35 rfl ?_
  refine mJ_istore dX8_sizeFor_38 (Nat.le_of_ble_eq_true rfl) (ls2 := [_, _, _, _, _, _, _]) rfl ?_
  refine mJ_bipush (v := 20) dX8_sizeFor_40 rfl ?_
  refine mJ_istore dX8_sizeFor_42 (Nat.le_of_ble_eq_true rfl) (ls2 := [_, _, _, _, _, _, _]) rfl ?_
  exact hj
