/-! THE REFERENCE: all hints are shown, or wait -/
def wI (d : aF) (nO : Nat) : Prop := ∀ i j, i < nO → j < nO → op d i = op d j → i = j
theorem insR_perm (d : aF) (h : Nat) : ∀ R, (insR d h R).Perm (h :: R)
  | [] => List.Perm.refl _
  | x :: R => by
    unfold insR
    split
    · exact List.Perm.refl _
    · exact ((insR_perm d h R).cons x).trans (List.Perm.swap h x R)
theorem ordR_perm (d : aF) : ∀ k, (ordR d k).Perm ((List.range k).map (op d))
  | 0 => List.Perm.refl _
  | k + 1 => by
    rw [ordR, List.range_succ, List.map_append]
    refine (insR_perm d _ _).trans ?_
    exact (((ordR_perm d k).cons _)).trans (List.perm_append_singleton _ _).symm
theorem ordR_nodup {d : aF} {nO : Nat} (hi : wI d nO) : (ordR d nO).Nodup := by
  refine (ordR_perm d nO).nodup_iff.mpr ?_
  rw [List.nodup_iff_pairwise_ne, List.pairwise_iff_getElem]
  intro i j h1 h2 hij e
  simp only [List.length_map, List.length_range] at h1 h2
  simp only [List.getElem_map, List.getElem_range] at e
  have := hi i j h1 h2 e
  omega
theorem ordL_nodup {d : aF} {nO : Nat} (hi : wI d nO) : (ordL d nO).Nodup := (List.reverse_perm _).nodup_iff.mpr (ordR_nodup hi)
theorem ordL_len (d : aF) (nO : Nat) : (ordL d nO).length = nO := by unfold ordL; rw [List.length_reverse, ordR_len]
theorem ordL_mem {d : aF} {nA nH nO : Nat} (hw : wD d nA nH nO) {h : Nat} (hm : h ∈ ordL d nO) : h < nH := by
  obtain ⟨w1, w2, w3, w4, w5, w6, w7, w8, w9, w10⟩ := hw
  unfold ordL at hm
  obtain ⟨j, hj, e⟩ := (ordR_mem d nO h).mp (List.mem_reverse.mp hm)
  obtain ⟨h2, hh3, hh4⟩ := w10 j hj
  rw [e]; unfold op; rw [hh4, nI_clamp (by omega)]; exact hh3
theorem oB_congr {d on on' : aF} {nA nH : Nat} {x y w t : Int32} (h : ∀ o, o < nH → on o = on' o) : oB d on nA nH x y w t ↔ oB d on' nA nH x y w t := by
  unfold oB oH
  constructor
  · rintro (q | ⟨o, ho, h1, h2⟩)
    · exact Or.inl q
    · exact Or.inr ⟨o, ho, by rw [← h o ho]; exact h1, by rw [← h o ho]; exact h2⟩
  · rintro (q | ⟨o, ho, h1, h2⟩)
    · exact Or.inl q
    · exact Or.inr ⟨o, ho, by rw [h o ho]; exact h1, by rw [h o ho]; exact h2⟩
theorem p_try_congr {d on on' : aF} {nA nH h : Nat} (e : ∀ o, o < nH → on o = on' o) : ∀ (L : List Int32) (r : Int32), p_try d on nA nH h L r = p_try d on' nA nH h L r
  | [], r => rfl
  | s :: L, r => by
    unfold p_try
    rw [p_try_congr e L 4, p_try_congr e L r, propext (oB_congr (d := d) (nA := nA) (x := p_x d h s) (y := p_y d h s) (w := dH d h 1) (t := dH d h 2) e)]
/-- two starts alike on the first n places -/
def aS (n : Nat) (S S' : aF × aF × Int32) : Prop := (∀ j, j < n → S.1 j = S'.1 j) ∧ (∀ j, j < n → S.2.1 j = S'.2.1 j) ∧ S.2.2 = S'.2.2
theorem upd_congr {f g : aF} {n k : Nat} {v : Int32} (h : ∀ j, j < n → f j = g j) : ∀ j, j < n → upd f k v j = upd g k v j := by
  intro j hj
  unfold upd
  split
  · rfl
  · exact h j hj
theorem p_step_congr {d : aF} {nA nH n : Nat} {S S' : aF × aF × Int32} (hn : nH ≤ n) (h : aS n S S') (k : Nat) : aS n (p_step d nA nH S k) (p_step d nA nH S' k) := by
  obtain ⟨h1, h2, h3⟩ := h
  have e := p_try_congr (d := d) (nA := nA) (h := k) (on := S.2.1) (on' := S'.2.1) (nH := nH) (fun o ho => h2 o (by omega)) (tryL d k) 3
  unfold p_step
  rw [e, h3]
  by_cases q : q_sn d (p_an d k)
  · rw [iif_t q, iif_t q]
    split
    · exact ⟨upd_congr h1, upd_congr h2, rfl⟩
    · exact ⟨upd_congr h1, h2, rfl⟩
  · rw [iif_f q, iif_f q]
    exact ⟨upd_congr h1, h2, rfl⟩
theorem p_run_congr {d : aF} {nA nH n : Nat} (hn : nH ≤ n) : ∀ (L : List Nat) {S S' : aF × aF × Int32}, aS n S S' → aS n (p_run d nA nH S L) (p_run d nA nH S' L)
  | [], _, _, h => h
  | k :: L, _, _, h => p_run_congr hn L (p_step_congr hn h k)
noncomputable def p_all (d : aF) (nA nH nO : Nat) : aF × aF × Int32 := p_run d nA nH (fun _ => 1, fun _ => -1, 0) (ordL d nO)
set_option maxHeartbeats 4000000 in
set_option maxRecDepth 100000 in
theorem L_X8_shows_2 {d was text ord : aF} {sta typ at_ sig fst snd rea : Int32} {nA nH nO : Nat} (hw : wD d nA nH nO) (hi : wI d nO) (hO : oF ord (ordL d nO)) : ∀ (m k : Nat) (x2 : Value) (lef top shf arr goo : Int32) (tri : aF) (trs : Int32) (why son : aF) (shn : Int32), k + m = nO → (∀ o, o < nH → son o = -1 ∨ sd (son o)) → (∀ j v, k ≤ j → (ordL d nO)[j]? = some v → son v = -1) → ∃ (lef' top' shf' arr' goo' : Int32) (tri' : aF) (trs' : Int32), mJ k_X8_shows 39 [.ref 0, .int (nI k), x2] [] (mH d was sta text typ at_ sig fst snd rea lef top shf arr goo ord why son shn tri trs) none (mH d was sta text typ at_ sig fst snd rea (lef') (top') (shf') (arr') (goo') ord ((p_run d nA nH (why, son, shn) ((ordL d nO).drop k)).1) ((p_run d nA nH (why, son, shn) ((ordL d nO).drop k)).2.1) ((p_run d nA nH (why, son, shn) ((ordL d nO).drop k)).2.2) (tri') (trs')) := by
  obtain ⟨w1, w2, w3, w4, w5, w6, w7, w8, w9, w10⟩ := id hw
  have hlen := ordL_len d nO
  have hnd := ordL_nodup hi
  intro m
  induction m with
  | zero =>
    intro k x2 lef top shf arr goo tri trs why son shn hk hon hout
    have hd : (ordL d nO).drop k = [] := List.drop_eq_nil_of_le (by omega)
    rw [hd]
    refine ⟨lef, top, shf, arr, goo, tri, trs, ?_⟩
    refine mJ_iload_n dX8_shows_39 rfl ?_
    refine mJ_aload_n dX8_shows_40 rfl ?_
    refine mJ_get dX8_shows_41 f_X8_7 rfl rfl ?_
    refine mJ_sipush (v := 147) dX8_shows_44 rfl ?_
    refine mJ_ialdN dX8_shows_47 rfl (j := 147) ⟨rfl, by decide, by decide⟩ ?_
    refine mJ_icmp_ge 140 dX8_shows_48 rfl (fun c_48 => ?_) (fun c_48 => False.elim (by exact c_48 (by rw [w6, show k = nO by omega]; exact Int32.le_refl _)))
    exact mJ_vret dX8_shows_140 rfl (rfl) (rfl)
  | succ m ih =>
    intro k x2 lef top shf arr goo tri trs why son shn hk0 hon hout
    have hk : k < nO := by omega
    obtain ⟨h, hh1⟩ : ∃ h, (ordL d nO)[k]? = some h := ⟨_, List.getElem?_eq_getElem (by omega)⟩
    have hh : h < nH := ordL_mem hw (List.mem_of_getElem? hh1)
    have hh12 : h < 12 := by omega
    obtain ⟨a, ha1, ha2⟩ := w7 h hh
    have hpa : p_an d h = a := p_an_of ha2 (by omega)
    have ho : ord k = nI h := hO k h hh1
    have hd : (ordL d nO).drop k = h :: (ordL d nO).drop (k + 1) := by
      rw [List.drop_eq_getElem_cons (by omega)]
      congr 1
      exact (List.getElem?_eq_some_iff.mp hh1).2
    have hs : son h = -1 := hout k h (Nat.le_refl _) hh1
    rw [hd]
    have hne : ∀ j v, k + 1 ≤ j → (ordL d nO)[j]? = some v → v ≠ h := by
      intro j v hj hv e
      subst e
      have := List.getElem?_inj (i := k) (j := j) (by omega) hnd |>.mp (hh1.trans hv.symm)
      omega
    by_cases g1 : q_sn d (p_an d h)
    · by_cases g2 : shn < d 6
      · obtain ⟨l0, t0, s0, a0, o0, r0, z0, hfin⟩ := C_X8_finds (was := was) (sta := sta) (text := text) (typ := typ) (at_ := at_) (sig := sig) (fst := fst) (snd := snd) (rea := rea) (lef := lef) (top := top) (shf := shf) (arr := arr) (goo := goo) (ord := ord) (why := why) (son := son) (shn := shn) (tri := tri) (trs := trs) hw hh hs hon
        have hts := p_try_sd d son nA nH h (tryL d h) 3 (tryL_sd (w8 h hh) (w9 h hh))
        have hon2 : ∀ o, o < nH → upd son h (p_try d son nA nH h (tryL d h) 3).2 o = -1 ∨ sd (upd son h (p_try d son nA nH h (tryL d h) 3).2 o) := by
          intro o ho2
          by_cases q : o = h
          · subst q; rw [upd_at]; exact hts
          · rw [upd_ne q]; exact hon o ho2
        have hout2 : ∀ j v, k + 1 ≤ j → (ordL d nO)[j]? = some v → upd son h (p_try d son nA nH h (tryL d h) 3).2 v = -1 := by
          intro j v hj hv
          rw [upd_ne (hne j v hj hv)]
          exact hout j v (by omega) hv
        by_cases g3 : (p_try d son nA nH h (tryL d h) 3).2 = -1
        · obtain ⟨l1, t1, s1, a1, o1, r1, z1, hj⟩ := ih (k + 1) (.int (nI h)) l0 t0 s0 a0 o0 r0 z0 (upd why h (p_try d son nA nH h (tryL d h) 3).1) (upd son h (p_try d son nA nH h (tryL d h) 3).2) shn (by omega) hon2 hout2
          rw [show p_run d nA nH (why, son, shn) (h :: (ordL d nO).drop (k + 1)) = p_run d nA nH (upd why h (p_try d son nA nH h (tryL d h) 3).1, upd son h (p_try d son nA nH h (tryL d h) 3).2, shn) ((ordL d nO).drop (k + 1)) from congrArg (fun z => p_run d nA nH z ((ordL d nO).drop (k + 1))) ((iif_t g1).trans ((if_pos g2).trans (by rw [if_pos g3])))]
          refine ⟨l1, t1, s1, a1, o1, r1, z1, ?_⟩
          refine mJ_iload_n dX8_shows_39 rfl ?_
          refine mJ_aload_n dX8_shows_40 rfl ?_
          refine mJ_get dX8_shows_41 f_X8_7 rfl rfl ?_
          refine mJ_sipush (v := 147) dX8_shows_44 rfl ?_
          refine mJ_ialdN dX8_shows_47 rfl (j := 147) ⟨rfl, by decide, by decide⟩ ?_
          refine mJ_icmp_ge 140 dX8_shows_48 rfl (fun c_48 => False.elim (by rw [w6] at c_48; exact nI_ge hk (by omega) c_48)) (fun c_48 => ?_)
          refine mJ_aload_n dX8_shows_51 rfl ?_
          refine mJ_get dX8_shows_52 f_X8_20 rfl rfl ?_
          refine mJ_iload_n dX8_shows_55 rfl ?_
          refine mJ_ialdN dX8_shows_56 rfl (j := k) ⟨rfl, by omega, by omega⟩ ?_
          refine mJ_top ho ?_
          refine mJ_istore_n dX8_shows_57 (Nat.le_of_ble_eq_true rfl) (ls2 := [_, _, _]) rfl ?_
          refine mJ_aload_n dX8_shows_58 rfl ?_
          refine mJ_aload_n dX8_shows_59 rfl ?_
          refine mJ_iload_n dX8_shows_60 rfl ?_
          refine mJ_iconst (v := 0) dX8_shows_61 rfl ?_
          refine mJ_cV2i dX8_shows_62 e_X8_ofHint n_X8_52 ⟨Nat.le_of_ble_eq_true rfl, Nat.le_of_ble_eq_true rfl⟩ rfl rfl (Nat.le_of_ble_eq_true rfl) (C_X8_ofHint (w := 0) hh12 (by decide)) ?_
          refine mJ_top ha2 ?_
          refine mJ_cV1i dX8_shows_65 e_X8_isSeen n_X8_106 ⟨Nat.le_of_ble_eq_true rfl, Nat.le_of_ble_eq_true rfl⟩ rfl rfl (Nat.le_of_ble_eq_true rfl) (C_X8_isSeen (a := a) (by omega)) ?_
          refine mJ_top (b2i_t (by rw [← hpa]; exact g1)) ?_
          refine mJ_if_ne 81 dX8_shows_68 rfl (fun _ => ?_) (fun c => absurd c (by decide))
          refine mJ_aload_n dX8_shows_81 rfl ?_
          refine mJ_get dX8_shows_82 f_X8_100 rfl rfl ?_
          refine mJ_aload_n dX8_shows_85 rfl ?_
          refine mJ_get dX8_shows_86 f_X8_7 rfl rfl ?_
          refine mJ_bipush (v := 6) dX8_shows_89 rfl ?_
          refine mJ_ialdN dX8_shows_91 rfl (j := 6) ⟨rfl, by decide, by decide⟩ ?_
          refine mJ_icmp_lt 105 dX8_shows_92 rfl (fun c_92 => ?_) (fun c_92 => False.elim (by exact c_92 g2))
          refine mJ_aload_n dX8_shows_105 rfl ?_
          refine mJ_iload_n dX8_shows_106 rfl ?_
          refine mJ_cV1v dX8_shows_107 e_X8_finds n_X8_109 ⟨Nat.le_of_ble_eq_true rfl, Nat.le_of_ble_eq_true rfl⟩ rfl rfl (Nat.le_of_ble_eq_true rfl) (hfin) ?_
          refine mJ_aload_n dX8_shows_110 rfl ?_
          refine mJ_dup dX8_shows_111 rfl ?_
          refine mJ_get dX8_shows_112 f_X8_100 rfl rfl ?_
          refine mJ_aload_n dX8_shows_115 rfl ?_
          refine mJ_get dX8_shows_116 f_X8_26 rfl rfl ?_
          refine mJ_iload_n dX8_shows_119 rfl ?_
          refine mJ_ialdN dX8_shows_120 rfl (j := h) ⟨rfl, by omega, by omega⟩ ?_
          refine mJ_top (upd_at son h (p_try d son nA nH h (tryL d h) 3).2) ?_
          refine mJ_iconst (v := (-1)) dX8_shows_121 rfl ?_
          refine mJ_icmp_ne 129 dX8_shows_122 rfl (fun c_122 => False.elim (by exact c_122 g3)) (fun c_122 => ?_)
          refine mJ_iconst (v := 0) dX8_shows_125 rfl ?_
          refine mJ_goto 130 dX8_shows_126 rfl ?_
          refine mJ_iadd dX8_shows_130 ?_
          refine mJ_top (Int32.add_zero shn) ?_
          refine mJ_put dX8_shows_131 p_X8_100 rfl (Nat.le_of_ble_eq_true rfl) rfl rfl (h2 := mH _ _ _ _ _ _ _ _ _ _ _ _ _ _ _ _ _ _ _ _ _) rfl ?_
          refine mJ_iinc dX8_shows_134 rfl (Nat.le_of_ble_eq_true rfl) (v := nI (k + 1)) (nI_1 k) (ls2 := [_, _, _]) rfl ?_
          refine mJ_goto 39 dX8_shows_137 rfl ?_
          exact hj
        · obtain ⟨l1, t1, s1, a1, o1, r1, z1, hj⟩ := ih (k + 1) (.int (nI h)) l0 t0 s0 a0 o0 r0 z0 (upd why h (p_try d son nA nH h (tryL d h) 3).1) (upd son h (p_try d son nA nH h (tryL d h) 3).2) (shn + 1) (by omega) hon2 hout2
          rw [show p_run d nA nH (why, son, shn) (h :: (ordL d nO).drop (k + 1)) = p_run d nA nH (upd why h (p_try d son nA nH h (tryL d h) 3).1, upd son h (p_try d son nA nH h (tryL d h) 3).2, (shn + 1)) ((ordL d nO).drop (k + 1)) from congrArg (fun z => p_run d nA nH z ((ordL d nO).drop (k + 1))) ((iif_t g1).trans ((if_pos g2).trans (by rw [if_neg g3])))]
          refine ⟨l1, t1, s1, a1, o1, r1, z1, ?_⟩
          refine mJ_iload_n dX8_shows_39 rfl ?_
          refine mJ_aload_n dX8_shows_40 rfl ?_
          refine mJ_get dX8_shows_41 f_X8_7 rfl rfl ?_
          refine mJ_sipush (v := 147) dX8_shows_44 rfl ?_
          refine mJ_ialdN dX8_shows_47 rfl (j := 147) ⟨rfl, by decide, by decide⟩ ?_
          refine mJ_icmp_ge 140 dX8_shows_48 rfl (fun c_48 => False.elim (by rw [w6] at c_48; exact nI_ge hk (by omega) c_48)) (fun c_48 => ?_)
          refine mJ_aload_n dX8_shows_51 rfl ?_
          refine mJ_get dX8_shows_52 f_X8_20 rfl rfl ?_
          refine mJ_iload_n dX8_shows_55 rfl ?_
          refine mJ_ialdN dX8_shows_56 rfl (j := k) ⟨rfl, by omega, by omega⟩ ?_
          refine mJ_top ho ?_
          refine mJ_istore_n dX8_shows_57 (Nat.le_of_ble_eq_true rfl) (ls2 := [_, _, _]) rfl ?_
          refine mJ_aload_n dX8_shows_58 rfl ?_
          refine mJ_aload_n dX8_shows_59 rfl ?_
          refine mJ_iload_n dX8_shows_60 rfl ?_
          refine mJ_iconst (v := 0) dX8_shows_61 rfl ?_
          refine mJ_cV2i dX8_shows_62 e_X8_ofHint n_X8_52 ⟨Nat.le_of_ble_eq_true rfl, Nat.le_of_ble_eq_true rfl⟩ rfl rfl (Nat.le_of_ble_eq_true rfl) (C_X8_ofHint (w := 0) hh12 (by decide)) ?_
          refine mJ_top ha2 ?_
          refine mJ_cV1i dX8_shows_65 e_X8_isSeen n_X8_106 ⟨Nat.le_of_ble_eq_true rfl, Nat.le_of_ble_eq_true rfl⟩ rfl rfl (Nat.le_of_ble_eq_true rfl) (C_X8_isSeen (a := a) (by omega)) ?_
          refine mJ_top (b2i_t (by rw [← hpa]; exact g1)) ?_
          refine mJ_if_ne 81 dX8_shows_68 rfl (fun _ => ?_) (fun c => absurd c (by decide))
          refine mJ_aload_n dX8_shows_81 rfl ?_
          refine mJ_get dX8_shows_82 f_X8_100 rfl rfl ?_
          refine mJ_aload_n dX8_shows_85 rfl ?_
          refine mJ_get dX8_shows_86 f_X8_7 rfl rfl ?_
          refine mJ_bipush (v := 6) dX8_shows_89 rfl ?_
          refine mJ_ialdN dX8_shows_91 rfl (j := 6) ⟨rfl, by decide, by decide⟩ ?_
          refine mJ_icmp_lt 105 dX8_shows_92 rfl (fun c_92 => ?_) (fun c_92 => False.elim (by exact c_92 g2))
          refine mJ_aload_n dX8_shows_105 rfl ?_
          refine mJ_iload_n dX8_shows_106 rfl ?_
          refine mJ_cV1v dX8_shows_107 e_X8_finds n_X8_109 ⟨Nat.le_of_ble_eq_true rfl, Nat.le_of_ble_eq_true rfl⟩ rfl rfl (Nat.le_of_ble_eq_true rfl) (hfin) ?_
          refine mJ_aload_n dX8_shows_110 rfl ?_
          refine mJ_dup dX8_shows_111 rfl ?_
          refine mJ_get dX8_shows_112 f_X8_100 rfl rfl ?_
          refine mJ_aload_n dX8_shows_115 rfl ?_
          refine mJ_get dX8_shows_116 f_X8_26 rfl rfl ?_
          refine mJ_iload_n dX8_shows_119 rfl ?_
          refine mJ_ialdN dX8_shows_120 rfl (j := h) ⟨rfl, by omega, by omega⟩ ?_
          refine mJ_top (upd_at son h (p_try d son nA nH h (tryL d h) 3).2) ?_
          refine mJ_iconst (v := (-1)) dX8_shows_121 rfl ?_
          refine mJ_icmp_ne 129 dX8_shows_122 rfl (fun c_122 => ?_) (fun c_122 => False.elim (by exact g3 c_122))
          refine mJ_iconst (v := 1) dX8_shows_129 rfl ?_
          refine mJ_iadd dX8_shows_130 ?_
          refine mJ_put dX8_shows_131 p_X8_100 rfl (Nat.le_of_ble_eq_true rfl) rfl rfl (h2 := mH _ _ _ _ _ _ _ _ _ _ _ _ _ _ _ _ _ _ _ _ _) rfl ?_
          refine mJ_iinc dX8_shows_134 rfl (Nat.le_of_ble_eq_true rfl) (v := nI (k + 1)) (nI_1 k) (ls2 := [_, _, _]) rfl ?_
          refine mJ_goto 39 dX8_shows_137 rfl ?_
          exact hj
      · obtain ⟨l1, t1, s1, a1, o1, r1, z1, hj⟩ := ih (k + 1) (.int (nI h)) lef top shf arr goo tri trs (upd why h 5) son shn (by omega) hon (fun j v hj hv => hout j v (by omega) hv)
        rw [show p_run d nA nH (why, son, shn) (h :: (ordL d nO).drop (k + 1)) = p_run d nA nH (upd why h 5, son, shn) ((ordL d nO).drop (k + 1)) from congrArg (fun z => p_run d nA nH z ((ordL d nO).drop (k + 1))) ((iif_t g1).trans (if_neg g2))]
        refine ⟨l1, t1, s1, a1, o1, r1, z1, ?_⟩
        refine mJ_iload_n dX8_shows_39 rfl ?_
        refine mJ_aload_n dX8_shows_40 rfl ?_
        refine mJ_get dX8_shows_41 f_X8_7 rfl rfl ?_
        refine mJ_sipush (v := 147) dX8_shows_44 rfl ?_
        refine mJ_ialdN dX8_shows_47 rfl (j := 147) ⟨rfl, by decide, by decide⟩ ?_
        refine mJ_icmp_ge 140 dX8_shows_48 rfl (fun c_48 => False.elim (by rw [w6] at c_48; exact nI_ge hk (by omega) c_48)) (fun c_48 => ?_)
        refine mJ_aload_n dX8_shows_51 rfl ?_
        refine mJ_get dX8_shows_52 f_X8_20 rfl rfl ?_
        refine mJ_iload_n dX8_shows_55 rfl ?_
        refine mJ_ialdN dX8_shows_56 rfl (j := k) ⟨rfl, by omega, by omega⟩ ?_
        refine mJ_top ho ?_
        refine mJ_istore_n dX8_shows_57 (Nat.le_of_ble_eq_true rfl) (ls2 := [_, _, _]) rfl ?_
        refine mJ_aload_n dX8_shows_58 rfl ?_
        refine mJ_aload_n dX8_shows_59 rfl ?_
        refine mJ_iload_n dX8_shows_60 rfl ?_
        refine mJ_iconst (v := 0) dX8_shows_61 rfl ?_
        refine mJ_cV2i dX8_shows_62 e_X8_ofHint n_X8_52 ⟨Nat.le_of_ble_eq_true rfl, Nat.le_of_ble_eq_true rfl⟩ rfl rfl (Nat.le_of_ble_eq_true rfl) (C_X8_ofHint (w := 0) hh12 (by decide)) ?_
        refine mJ_top ha2 ?_
        refine mJ_cV1i dX8_shows_65 e_X8_isSeen n_X8_106 ⟨Nat.le_of_ble_eq_true rfl, Nat.le_of_ble_eq_true rfl⟩ rfl rfl (Nat.le_of_ble_eq_true rfl) (C_X8_isSeen (a := a) (by omega)) ?_
        refine mJ_top (b2i_t (by rw [← hpa]; exact g1)) ?_
        refine mJ_if_ne 81 dX8_shows_68 rfl (fun _ => ?_) (fun c => absurd c (by decide))
        refine mJ_aload_n dX8_shows_81 rfl ?_
        refine mJ_get dX8_shows_82 f_X8_100 rfl rfl ?_
        refine mJ_aload_n dX8_shows_85 rfl ?_
        refine mJ_get dX8_shows_86 f_X8_7 rfl rfl ?_
        refine mJ_bipush (v := 6) dX8_shows_89 rfl ?_
        refine mJ_ialdN dX8_shows_91 rfl (j := 6) ⟨rfl, by decide, by decide⟩ ?_
        refine mJ_icmp_lt 105 dX8_shows_92 rfl (fun c_92 => False.elim (by exact g2 c_92)) (fun c_92 => ?_)
        refine mJ_aload_n dX8_shows_95 rfl ?_
        refine mJ_get dX8_shows_96 f_X8_23 rfl rfl ?_
        refine mJ_iload_n dX8_shows_99 rfl ?_
        refine mJ_iconst (v := 5) dX8_shows_100 rfl ?_
        refine mJ_iastN dX8_shows_101 rfl (j := h) ⟨rfl, by omega, by omega⟩ (h2 := mH _ _ _ _ _ _ _ _ _ _ _ _ _ _ _ _ _ _ _ _ _) rfl ?_
        refine mJ_goto 134 dX8_shows_102 rfl ?_
        refine mJ_iinc dX8_shows_134 rfl (Nat.le_of_ble_eq_true rfl) (v := nI (k + 1)) (nI_1 k) (ls2 := [_, _, _]) rfl ?_
        refine mJ_goto 39 dX8_shows_137 rfl ?_
        exact hj
    · obtain ⟨l1, t1, s1, a1, o1, r1, z1, hj⟩ := ih (k + 1) (.int (nI h)) lef top shf arr goo tri trs (upd why h 2) son shn (by omega) hon (fun j v hj hv => hout j v (by omega) hv)
      rw [show p_run d nA nH (why, son, shn) (h :: (ordL d nO).drop (k + 1)) = p_run d nA nH (upd why h 2, son, shn) ((ordL d nO).drop (k + 1)) from congrArg (fun z => p_run d nA nH z ((ordL d nO).drop (k + 1))) (iif_f g1)]
      refine ⟨l1, t1, s1, a1, o1, r1, z1, ?_⟩
      refine mJ_iload_n dX8_shows_39 rfl ?_
      refine mJ_aload_n dX8_shows_40 rfl ?_
      refine mJ_get dX8_shows_41 f_X8_7 rfl rfl ?_
      refine mJ_sipush (v := 147) dX8_shows_44 rfl ?_
      refine mJ_ialdN dX8_shows_47 rfl (j := 147) ⟨rfl, by decide, by decide⟩ ?_
      refine mJ_icmp_ge 140 dX8_shows_48 rfl (fun c_48 => False.elim (by rw [w6] at c_48; exact nI_ge hk (by omega) c_48)) (fun c_48 => ?_)
      refine mJ_aload_n dX8_shows_51 rfl ?_
      refine mJ_get dX8_shows_52 f_X8_20 rfl rfl ?_
      refine mJ_iload_n dX8_shows_55 rfl ?_
      refine mJ_ialdN dX8_shows_56 rfl (j := k) ⟨rfl, by omega, by omega⟩ ?_
      refine mJ_top ho ?_
      refine mJ_istore_n dX8_shows_57 (Nat.le_of_ble_eq_true rfl) (ls2 := [_, _, _]) rfl ?_
      refine mJ_aload_n dX8_shows_58 rfl ?_
      refine mJ_aload_n dX8_shows_59 rfl ?_
      refine mJ_iload_n dX8_shows_60 rfl ?_
      refine mJ_iconst (v := 0) dX8_shows_61 rfl ?_
      refine mJ_cV2i dX8_shows_62 e_X8_ofHint n_X8_52 ⟨Nat.le_of_ble_eq_true rfl, Nat.le_of_ble_eq_true rfl⟩ rfl rfl (Nat.le_of_ble_eq_true rfl) (C_X8_ofHint (w := 0) hh12 (by decide)) ?_
      refine mJ_top ha2 ?_
      refine mJ_cV1i dX8_shows_65 e_X8_isSeen n_X8_106 ⟨Nat.le_of_ble_eq_true rfl, Nat.le_of_ble_eq_true rfl⟩ rfl rfl (Nat.le_of_ble_eq_true rfl) (C_X8_isSeen (a := a) (by omega)) ?_
      refine mJ_top (b2i_f (by rw [← hpa]; exact g1)) ?_
      refine mJ_if_ne 81 dX8_shows_68 rfl (fun c => absurd c (by decide)) (fun _ => ?_)
      refine mJ_aload_n dX8_shows_71 rfl ?_
      refine mJ_get dX8_shows_72 f_X8_23 rfl rfl ?_
      refine mJ_iload_n dX8_shows_75 rfl ?_
      refine mJ_iconst (v := 2) dX8_shows_76 rfl ?_
      refine mJ_iastN dX8_shows_77 rfl (j := h) ⟨rfl, by omega, by omega⟩ (h2 := mH _ _ _ _ _ _ _ _ _ _ _ _ _ _ _ _ _ _ _ _ _) rfl ?_
      refine mJ_goto 134 dX8_shows_78 rfl ?_
      refine mJ_iinc dX8_shows_134 rfl (Nat.le_of_ble_eq_true rfl) (v := nI (k + 1)) (nI_1 k) (ls2 := [_, _, _]) rfl ?_
      refine mJ_goto 39 dX8_shows_137 rfl ?_
      exact hj
def iK (f : aF) (v : Int32) (k : Nat) : aF := fun j => if j < k then v else f j
theorem iK_0 (f : aF) (v : Int32) : iK f v 0 = f := by
  funext j
  unfold iK
  rw [if_neg (by omega)]
theorem iK_s (f : aF) (v : Int32) (k : Nat) : upd (iK f v k) k v = iK f v (k + 1) := by
  funext j
  unfold iK upd
  by_cases h : j = k
  · subst h
    rw [if_pos rfl, if_pos (by omega)]
  · rw [if_neg h]
    show (if j < k then v else f j) = _
    by_cases h2 : j < k
    · rw [if_pos h2, if_pos (by omega)]
    · rw [if_neg h2, if_neg (by omega)]
set_option maxHeartbeats 4000000 in
set_option maxRecDepth 100000 in
theorem L_X8_shows_0 {d was text ord why son tri : aF} {sta typ at_ sig fst snd rea lef top shf arr goo shn trs : Int32} {H : List mC} (hrest : mJ k_X8_shows 2 [.ref 0, .int (nI 12), .null] [] (mH d was sta text typ at_ sig fst snd rea lef top shf arr goo ord (iK why 1 12) (iK son (-1) 12) shn tri trs) none H) : ∀ (m k : Nat), k + m = 12 → mJ k_X8_shows 2 [.ref 0, .int (nI k), .null] [] (mH d was sta text typ at_ sig fst snd rea lef top shf arr goo ord (iK why 1 k) (iK son (-1) k) shn tri trs) none H := by
  intro m
  induction m with
  | zero =>
    intro k hk
    rw [show k = 12 by omega]
    exact hrest
  | succ m ih =>
    intro k hk
    refine mJ_iload_n dX8_shows_2 rfl ?_
    refine mJ_bipush (v := 12) dX8_shows_3 rfl ?_
    refine mJ_icmp_ge 28 dX8_shows_5 rfl (fun c_5 => False.elim (by exact nI_ge (b := 12) (show k < 12 by omega) (by omega) c_5)) (fun c_5 => ?_)
    refine mJ_aload_n dX8_shows_8 rfl ?_
    refine mJ_get dX8_shows_9 f_X8_23 rfl rfl ?_
    refine mJ_iload_n dX8_shows_12 rfl ?_
    refine mJ_iconst (v := 1) dX8_shows_13 rfl ?_
    refine mJ_iastN dX8_shows_14 rfl (j := k) ⟨rfl, by omega, by omega⟩ (h2 := mH _ _ _ _ _ _ _ _ _ _ _ _ _ _ _ _ _ _ _ _ _) rfl ?_
    refine mJ_aload_n dX8_shows_15 rfl ?_
    refine mJ_get dX8_shows_16 f_X8_26 rfl rfl ?_
    refine mJ_iload_n dX8_shows_19 rfl ?_
    refine mJ_iconst (v := (-1)) dX8_shows_20 rfl ?_
    refine mJ_iastN dX8_shows_21 rfl (j := k) ⟨rfl, by omega, by omega⟩ (h2 := mH _ _ _ _ _ _ _ _ _ _ _ _ _ _ _ _ _ _ _ _ _) rfl ?_
    refine mJ_iinc dX8_shows_22 rfl (Nat.le_of_ble_eq_true rfl) (v := nI (k + 1)) (nI_1 k) (ls2 := [_, _, _]) rfl ?_
    refine mJ_goto 2 dX8_shows_25 rfl ?_
    rw [iK_s, iK_s]
    exact ih (k + 1) (by omega)
set_option maxHeartbeats 4000000 in
set_option maxRecDepth 100000 in
theorem C_X8_shows {d was text ord why son tri : aF} {sta typ at_ sig fst snd rea lef top shf arr goo shn trs : Int32} {nA nH nO : Nat} (hw : wD d nA nH nO) (hi : wI d nO) : ∃ (lef' top' shf' arr' goo' : Int32) (ord' why' son' tri' : aF) (trs' : Int32), oF ord' (ordL d nO) ∧ (∀ j, j < 12 → why' j = (p_all d nA nH nO).1 j) ∧ (∀ j, j < 12 → son' j = (p_all d nA nH nO).2.1 j) ∧ mCt k_X8_shows [.ref 0] (mH d was sta text typ at_ sig fst snd rea lef top shf arr goo ord why son shn tri trs) none (mH d was sta text typ at_ sig fst snd rea (lef') (top') (shf') (arr') (goo') (ord') (why') (son') ((p_all d nA nH nO).2.2) (tri') (trs')) := by
  obtain ⟨w1, w2, w3, w4, w5, w6, w7, w8, w9, w10⟩ := id hw
  obtain ⟨ord', hO, hs⟩ := C_X8_sorts (was := was) (sta := sta) (text := text) (typ := typ) (at_ := at_) (sig := sig) (fst := fst) (snd := snd) (rea := rea) (lef := lef) (top := top) (shf := shf) (arr := arr) (goo := goo) (tri := tri) (trs := trs) (ord := ord) (why := iK why 1 12) (son := iK son (-1) 12) (shn := 0) hw
  have hn1 : ∀ o, o < 12 → iK son (-1) 12 o = -1 := fun o ho => if_pos ho
  obtain ⟨l1, t1, s1, a1, o1, r1, z1, hj⟩ := L_X8_shows_2 (was := was) (sta := sta) (text := text) (typ := typ) (at_ := at_) (sig := sig) (fst := fst) (snd := snd) (rea := rea) (ord := ord') hw hi hO nO 0 .null lef top shf arr goo tri trs (iK why 1 12) (iK son (-1) 12) 0 (by omega) (fun o ho => Or.inl (hn1 o (by omega))) (fun j v _ hv => hn1 v (by have := ordL_mem hw (List.mem_of_getElem? hv); omega))
  rw [List.drop_zero] at hj
  have hc : aS 12 (p_run d nA nH (iK why 1 12, iK son (-1) 12, 0) (ordL d nO)) (p_all d nA nH nO) := p_run_congr (by omega) _ ⟨fun j hj => if_pos hj, fun j hj => if_pos hj, rfl⟩
  rw [hc.2.2] at hj
  refine ⟨l1, t1, s1, a1, o1, ord', _, _, r1, z1, hO, hc.1, hc.2.1, ?_⟩
  refine mCt_intro (plainFor_of_name rfl) (Nat.le_of_ble_eq_true rfl) (m_all rfl) (ls := [_, _, _]) rfl ?_
  refine mJ_iconst (v := 0) dX8_shows_0 rfl ?_
  refine mJ_istore_n dX8_shows_1 (Nat.le_of_ble_eq_true rfl) (ls2 := [_, _, _]) rfl ?_
  rw [← iK_0 why 1, ← iK_0 son (-1)]
  refine L_X8_shows_0 ?_ 12 0 (by omega)
  refine mJ_iload_n dX8_shows_2 rfl ?_
  refine mJ_bipush (v := 12) dX8_shows_3 rfl ?_
  refine mJ_icmp_ge 28 dX8_shows_5 rfl (fun c_5 => ?_) (fun c_5 => False.elim (by exact c_5 (Int32.le_refl _)))
  refine mJ_aload_n dX8_shows_28 rfl ?_
  refine mJ_iconst (v := 0) dX8_shows_29 rfl ?_
  refine mJ_put dX8_shows_30 p_X8_100 rfl (Nat.le_of_ble_eq_true rfl) rfl rfl (h2 := mH _ _ _ _ _ _ _ _ _ _ _ _ _ _ _ _ _ _ _ _ _) rfl ?_
  refine mJ_aload_n dX8_shows_33 rfl ?_
  refine mJ_cV0v dX8_shows_34 e_X8_sorts n_X8_103 ⟨Nat.le_of_ble_eq_true rfl, Nat.le_of_ble_eq_true rfl⟩ rfl rfl (Nat.le_of_ble_eq_true rfl) (hs) ?_
  refine mJ_iconst (v := 0) dX8_shows_37 rfl ?_
  refine mJ_istore_n dX8_shows_38 (Nat.le_of_ble_eq_true rfl) (ls2 := [_, _, _]) rfl ?_
  exact hj
set_option maxHeartbeats 4000000 in
set_option maxRecDepth 100000 in
theorem C_X8_many {d was text ord why son tri : aF} {sta typ at_ sig fst snd rea lef top shf arr goo shn trs : Int32} {nA nH nO : Nat} (hw : wD d nA nH nO) (hi : wI d nO) : ∃ (lef' top' shf' arr' goo' : Int32) (ord' why' son' tri' : aF) (trs' : Int32), mCt k_X8_many [.ref 0] (mH d was sta text typ at_ sig fst snd rea lef top shf arr goo ord why son shn tri trs) (some (.int (p_all d nA nH nO).2.2)) (mH d was sta text typ at_ sig fst snd rea (lef') (top') (shf') (arr') (goo') (ord') (why') (son') ((p_all d nA nH nO).2.2) (tri') (trs')) := by
  obtain ⟨l1, t1, s1, a1, o1, d1, y1, n1, r1, z1, e1, e2, e3, hj⟩ := C_X8_shows (d := d) (was := was) (sta := sta) (text := text) (typ := typ) (at_ := at_) (sig := sig) (fst := fst) (snd := snd) (rea := rea) (lef := lef) (top := top) (shf := shf) (arr := arr) (goo := goo) (ord := ord) (why := why) (son := son) (shn := shn) (tri := tri) (trs := trs) hw hi
  refine ⟨l1, t1, s1, a1, o1, d1, y1, n1, r1, z1, ?_⟩
  refine mCt_intro (plainFor_of_name rfl) (Nat.le_of_ble_eq_true rfl) (m_all rfl) (ls := [_]) rfl ?_
  refine mJ_aload_n dX8_many_0 rfl ?_
  refine mJ_cV0v dX8_many_1 e_X8_shows n_X8_112 ⟨Nat.le_of_ble_eq_true rfl, Nat.le_of_ble_eq_true rfl⟩ rfl rfl (Nat.le_of_ble_eq_true rfl) (hj) ?_
  refine mJ_aload_n dX8_many_4 rfl ?_
  refine mJ_get dX8_many_5 f_X8_100 rfl rfl ?_
  exact mJ_iret dX8_many_8 rfl (rfl) (rfl)
