/-! THE LAW: its loops -/
set_option maxHeartbeats 4000000 in
set_option maxRecDepth 100000 in
theorem l_sum1 {p : Program} {l : Launch} {e : Env} {s : State} {m : MethodId} {below : List Frame} {meth : Method} {c : Code} {b L : Nat} {xs : Nat → Int32} {D : va_G} {g : Nat → ClassId} {ad : Nat → Nat} (X : lX p s m meth c b L xs D g ad) {d : aF} {nO B n : Nat} {x3 x4 x5 x6 x7 x8 x9 x10 x11 x14 x15 x16 x17 x18 : Value} (kk : ∀ h' : List mC, ST h' d 5 9 nO B n → lJ p l e s m below meth c b D g ad 659 [.ref 29, .ref 0, .int 1, x3, x4, x5, x6, x7, x8, x9, x10, x11, .int (sm (p_all d 5 9 nO).1 (p_all d 5 9 nO).2.1 9), .int (nI 9), x14, x15, x16, x17, x18] [] h') : ∀ (k i : Nat) (v : Int32) (h : List mC), i + k = 9 → v = sm (p_all d 5 9 nO).1 (p_all d 5 9 nO).2.1 i → ST h d 5 9 nO B n → lJ p l e s m below meth c b D g ad 606 [.ref 29, .ref 0, .int 1, x3, x4, x5, x6, x7, x8, x9, x10, x11, .int v, .int (nI i), x14, x15, x16, x17, x18] [] h := by
  intro k
  induction k with
  | zero =>
    intro i v h hm hv S
    obtain rfl : i = 9 := by omega
    subst hv
    refine lJ_iload X dL_law_606 rfl ?_
    refine lJ_bipush X (v := 9) dL_law_608 rfl ?_
    refine lJ_icmp_ge X 659 dL_law_610 rfl (fun c_610 => ?_) (fun c_610 => False.elim (by exact c_610 (nI_le (a := 9) (Nat.le_refl _) (by omega))))
    exact kk h S
  | succ k ih =>
    intro i v h hm hv S
    have hi : i < 9 := by omega
    obtain ⟨hw, hR, hI⟩ := ST_w S
    obtain ⟨F1, F2, -⟩ := p_facts hw hI hR
    by_cases gs : (p_all d 5 9 nO).2.1 i = -1
    · have hk := ih (i + 1) (7 * v + (p_all d 5 9 nO).1 i + 0) h (by omega) (by rw [hv]; show _ = 7 * sm (p_all d 5 9 nO).1 (p_all d 5 9 nO).2.1 i + (p_all d 5 9 nO).1 i + iif ((p_all d 5 9 nO).2.1 i = -1) 0 ((p_all d 5 9 nO).2.1 i); rw [iif_t gs]) S
      refine lJ_iload X dL_law_606 rfl ?_
      refine lJ_bipush X (v := 9) dL_law_608 rfl ?_
      refine lJ_icmp_ge X 659 dL_law_610 rfl (fun c_610 => False.elim (by exact nI_ge (b := 9) hi (by omega) c_610)) (fun c_610 => ?_)
      refine lJ_bipush X (v := 7) dL_law_613 rfl ?_
      refine lJ_iload X dL_law_615 rfl ?_
      refine lJ_imul X dL_law_617 ?_
      refine lJ_aload_n X dL_law_618 rfl ?_
      refine lJ_iload X dL_law_619 rfl ?_
      refine lJ_bipush X (v := 8) dL_law_621 rfl ?_
      refine lJ_cV2i X dL_law_623 e_X7_hintOf n_L_15 ⟨Nat.le_of_ble_eq_true rfl, Nat.le_of_ble_eq_true rfl⟩ rfl (Nat.le_of_ble_eq_true rfl) (E_hint_8 S hi) ?_
      refine lJ_iadd X dL_law_626 ?_
      refine lJ_aload_n X dL_law_627 rfl ?_
      refine lJ_iload X dL_law_628 rfl ?_
      refine lJ_bipush X (v := 9) dL_law_630 rfl ?_
      refine lJ_cV2i X dL_law_632 e_X7_hintOf n_L_15 ⟨Nat.le_of_ble_eq_true rfl, Nat.le_of_ble_eq_true rfl⟩ rfl (Nat.le_of_ble_eq_true rfl) (E_hint_9n S hi gs) ?_
      refine lJ_if_ge X 642 dL_law_635 rfl (fun c => absurd c (by decide)) (fun _ => ?_)
      refine lJ_iconst X (v := 0) dL_law_638 rfl ?_
      refine lJ_goto X 650 dL_law_639 rfl ?_
      refine lJ_iadd X dL_law_650 ?_
      refine lJ_istore X dL_law_651 (Nat.le_of_ble_eq_true rfl) (ls2 := [_, _, _, _, _, _, _, _, _, _, _, _, _, _, _, _, _, _, _]) rfl ?_
      refine lJ_iinc X dL_law_653 rfl (Nat.le_of_ble_eq_true rfl) (v := nI (i + 1)) (nI_1 i) (ls2 := [_, _, _, _, _, _, _, _, _, _, _, _, _, _, _, _, _, _, _]) rfl ?_
      refine lJ_goto X 606 dL_law_656 rfl ?_
      exact hk
    · obtain ⟨h2, S2, c2⟩ := E_hint_9 S hi gs
      obtain ⟨h3, S3, c3⟩ := E_hint_9 S2 hi gs
      have hk := ih (i + 1) (7 * v + (p_all d 5 9 nO).1 i + (p_all d 5 9 nO).2.1 i) h3 (by omega) (by rw [hv]; show _ = 7 * sm (p_all d 5 9 nO).1 (p_all d 5 9 nO).2.1 i + (p_all d 5 9 nO).1 i + iif ((p_all d 5 9 nO).2.1 i = -1) 0 ((p_all d 5 9 nO).2.1 i); rw [iif_f gs]) S3
      refine lJ_iload X dL_law_606 rfl ?_
      refine lJ_bipush X (v := 9) dL_law_608 rfl ?_
      refine lJ_icmp_ge X 659 dL_law_610 rfl (fun c_610 => False.elim (by exact nI_ge (b := 9) hi (by omega) c_610)) (fun c_610 => ?_)
      refine lJ_bipush X (v := 7) dL_law_613 rfl ?_
      refine lJ_iload X dL_law_615 rfl ?_
      refine lJ_imul X dL_law_617 ?_
      refine lJ_aload_n X dL_law_618 rfl ?_
      refine lJ_iload X dL_law_619 rfl ?_
      refine lJ_bipush X (v := 8) dL_law_621 rfl ?_
      refine lJ_cV2i X dL_law_623 e_X7_hintOf n_L_15 ⟨Nat.le_of_ble_eq_true rfl, Nat.le_of_ble_eq_true rfl⟩ rfl (Nat.le_of_ble_eq_true rfl) (E_hint_8 S hi) ?_
      refine lJ_iadd X dL_law_626 ?_
      refine lJ_aload_n X dL_law_627 rfl ?_
      refine lJ_iload X dL_law_628 rfl ?_
      refine lJ_bipush X (v := 9) dL_law_630 rfl ?_
      refine lJ_cV2i X dL_law_632 e_X7_hintOf n_L_15 ⟨Nat.le_of_ble_eq_true rfl, Nat.le_of_ble_eq_true rfl⟩ rfl (Nat.le_of_ble_eq_true rfl) (c2) ?_
      refine lJ_if_ge X 642 dL_law_635 rfl (fun c_635 => ?_) (fun c_635 => False.elim (by exact c_635 (sd_nn (F1 i gs).1)))
      refine lJ_aload_n X dL_law_642 rfl ?_
      refine lJ_iload X dL_law_643 rfl ?_
      refine lJ_bipush X (v := 9) dL_law_645 rfl ?_
      refine lJ_cV2i X dL_law_647 e_X7_hintOf n_L_15 ⟨Nat.le_of_ble_eq_true rfl, Nat.le_of_ble_eq_true rfl⟩ rfl (Nat.le_of_ble_eq_true rfl) (c3) ?_
      refine lJ_iadd X dL_law_650 ?_
      refine lJ_istore X dL_law_651 (Nat.le_of_ble_eq_true rfl) (ls2 := [_, _, _, _, _, _, _, _, _, _, _, _, _, _, _, _, _, _, _]) rfl ?_
      refine lJ_iinc X dL_law_653 rfl (Nat.le_of_ble_eq_true rfl) (v := nI (i + 1)) (nI_1 i) (ls2 := [_, _, _, _, _, _, _, _, _, _, _, _, _, _, _, _, _, _, _]) rfl ?_
      refine lJ_goto X 606 dL_law_656 rfl ?_
      exact hk
set_option maxHeartbeats 4000000 in
set_option maxRecDepth 100000 in
theorem l_sum2 {p : Program} {l : Launch} {e : Env} {s : State} {m : MethodId} {below : List Frame} {meth : Method} {c : Code} {b L : Nat} {xs : Nat → Int32} {D : va_G} {g : Nat → ClassId} {ad : Nat → Nat} (X : lX p s m meth c b L xs D g ad) {d : aF} {nO B n : Nat} {x3 x4 x5 x6 x7 x8 x9 x10 x11 x12 x13 x14 x15 x16 : Value} (kk : ∀ h' : List mC, ST h' d 5 9 nO B n → lJ p l e s m below meth c b D g ad 887 [.ref 29, .ref 0, .int 1, x3, x4, x5, x6, x7, x8, x9, x10, x11, x12, x13, x14, x15, x16, .int (sm (p_all d 5 9 nO).1 (p_all d 5 9 nO).2.1 9), .int (nI 9)] [] h') : ∀ (k i : Nat) (v : Int32) (h : List mC), i + k = 9 → v = sm (p_all d 5 9 nO).1 (p_all d 5 9 nO).2.1 i → ST h d 5 9 nO B n → lJ p l e s m below meth c b D g ad 834 [.ref 29, .ref 0, .int 1, x3, x4, x5, x6, x7, x8, x9, x10, x11, x12, x13, x14, x15, x16, .int v, .int (nI i)] [] h := by
  intro k
  induction k with
  | zero =>
    intro i v h hm hv S
    obtain rfl : i = 9 := by omega
    subst hv
    refine lJ_iload X dL_law_834 rfl ?_
    refine lJ_bipush X (v := 9) dL_law_836 rfl ?_
    refine lJ_icmp_ge X 887 dL_law_838 rfl (fun c_838 => ?_) (fun c_838 => False.elim (by exact c_838 (nI_le (a := 9) (Nat.le_refl _) (by omega))))
    exact kk h S
  | succ k ih =>
    intro i v h hm hv S
    have hi : i < 9 := by omega
    obtain ⟨hw, hR, hI⟩ := ST_w S
    obtain ⟨F1, F2, -⟩ := p_facts hw hI hR
    by_cases gs : (p_all d 5 9 nO).2.1 i = -1
    · have hk := ih (i + 1) (7 * v + (p_all d 5 9 nO).1 i + 0) h (by omega) (by rw [hv]; show _ = 7 * sm (p_all d 5 9 nO).1 (p_all d 5 9 nO).2.1 i + (p_all d 5 9 nO).1 i + iif ((p_all d 5 9 nO).2.1 i = -1) 0 ((p_all d 5 9 nO).2.1 i); rw [iif_t gs]) S
      refine lJ_iload X dL_law_834 rfl ?_
      refine lJ_bipush X (v := 9) dL_law_836 rfl ?_
      refine lJ_icmp_ge X 887 dL_law_838 rfl (fun c_838 => False.elim (by exact nI_ge (b := 9) hi (by omega) c_838)) (fun c_838 => ?_)
      refine lJ_bipush X (v := 7) dL_law_841 rfl ?_
      refine lJ_iload X dL_law_843 rfl ?_
      refine lJ_imul X dL_law_845 ?_
      refine lJ_aload_n X dL_law_846 rfl ?_
      refine lJ_iload X dL_law_847 rfl ?_
      refine lJ_bipush X (v := 8) dL_law_849 rfl ?_
      refine lJ_cV2i X dL_law_851 e_X7_hintOf n_L_15 ⟨Nat.le_of_ble_eq_true rfl, Nat.le_of_ble_eq_true rfl⟩ rfl (Nat.le_of_ble_eq_true rfl) (E_hint_8 S hi) ?_
      refine lJ_iadd X dL_law_854 ?_
      refine lJ_aload_n X dL_law_855 rfl ?_
      refine lJ_iload X dL_law_856 rfl ?_
      refine lJ_bipush X (v := 9) dL_law_858 rfl ?_
      refine lJ_cV2i X dL_law_860 e_X7_hintOf n_L_15 ⟨Nat.le_of_ble_eq_true rfl, Nat.le_of_ble_eq_true rfl⟩ rfl (Nat.le_of_ble_eq_true rfl) (E_hint_9n S hi gs) ?_
      refine lJ_if_ge X 870 dL_law_863 rfl (fun c => absurd c (by decide)) (fun _ => ?_)
      refine lJ_iconst X (v := 0) dL_law_866 rfl ?_
      refine lJ_goto X 878 dL_law_867 rfl ?_
      refine lJ_iadd X dL_law_878 ?_
      refine lJ_istore X dL_law_879 (Nat.le_of_ble_eq_true rfl) (ls2 := [_, _, _, _, _, _, _, _, _, _, _, _, _, _, _, _, _, _, _]) rfl ?_
      refine lJ_iinc X dL_law_881 rfl (Nat.le_of_ble_eq_true rfl) (v := nI (i + 1)) (nI_1 i) (ls2 := [_, _, _, _, _, _, _, _, _, _, _, _, _, _, _, _, _, _, _]) rfl ?_
      refine lJ_goto X 834 dL_law_884 rfl ?_
      exact hk
    · obtain ⟨h2, S2, c2⟩ := E_hint_9 S hi gs
      obtain ⟨h3, S3, c3⟩ := E_hint_9 S2 hi gs
      have hk := ih (i + 1) (7 * v + (p_all d 5 9 nO).1 i + (p_all d 5 9 nO).2.1 i) h3 (by omega) (by rw [hv]; show _ = 7 * sm (p_all d 5 9 nO).1 (p_all d 5 9 nO).2.1 i + (p_all d 5 9 nO).1 i + iif ((p_all d 5 9 nO).2.1 i = -1) 0 ((p_all d 5 9 nO).2.1 i); rw [iif_f gs]) S3
      refine lJ_iload X dL_law_834 rfl ?_
      refine lJ_bipush X (v := 9) dL_law_836 rfl ?_
      refine lJ_icmp_ge X 887 dL_law_838 rfl (fun c_838 => False.elim (by exact nI_ge (b := 9) hi (by omega) c_838)) (fun c_838 => ?_)
      refine lJ_bipush X (v := 7) dL_law_841 rfl ?_
      refine lJ_iload X dL_law_843 rfl ?_
      refine lJ_imul X dL_law_845 ?_
      refine lJ_aload_n X dL_law_846 rfl ?_
      refine lJ_iload X dL_law_847 rfl ?_
      refine lJ_bipush X (v := 8) dL_law_849 rfl ?_
      refine lJ_cV2i X dL_law_851 e_X7_hintOf n_L_15 ⟨Nat.le_of_ble_eq_true rfl, Nat.le_of_ble_eq_true rfl⟩ rfl (Nat.le_of_ble_eq_true rfl) (E_hint_8 S hi) ?_
      refine lJ_iadd X dL_law_854 ?_
      refine lJ_aload_n X dL_law_855 rfl ?_
      refine lJ_iload X dL_law_856 rfl ?_
      refine lJ_bipush X (v := 9) dL_law_858 rfl ?_
      refine lJ_cV2i X dL_law_860 e_X7_hintOf n_L_15 ⟨Nat.le_of_ble_eq_true rfl, Nat.le_of_ble_eq_true rfl⟩ rfl (Nat.le_of_ble_eq_true rfl) (c2) ?_
      refine lJ_if_ge X 870 dL_law_863 rfl (fun c_863 => ?_) (fun c_863 => False.elim (by exact c_863 (sd_nn (F1 i gs).1)))
      refine lJ_aload_n X dL_law_870 rfl ?_
      refine lJ_iload X dL_law_871 rfl ?_
      refine lJ_bipush X (v := 9) dL_law_873 rfl ?_
      refine lJ_cV2i X dL_law_875 e_X7_hintOf n_L_15 ⟨Nat.le_of_ble_eq_true rfl, Nat.le_of_ble_eq_true rfl⟩ rfl (Nat.le_of_ble_eq_true rfl) (c3) ?_
      refine lJ_iadd X dL_law_878 ?_
      refine lJ_istore X dL_law_879 (Nat.le_of_ble_eq_true rfl) (ls2 := [_, _, _, _, _, _, _, _, _, _, _, _, _, _, _, _, _, _, _]) rfl ?_
      refine lJ_iinc X dL_law_881 rfl (Nat.le_of_ble_eq_true rfl) (v := nI (i + 1)) (nI_1 i) (ls2 := [_, _, _, _, _, _, _, _, _, _, _, _, _, _, _, _, _, _, _]) rfl ?_
      refine lJ_goto X 834 dL_law_884 rfl ?_
      exact hk
set_option maxHeartbeats 4000000 in
set_option maxRecDepth 100000 in
theorem l_moves {p : Program} {l : Launch} {e : Env} {s : State} {m : MethodId} {below : List Frame} {meth : Method} {c : Code} {b L : Nat} {xs : Nat → Int32} {D : va_G} {g : Nat → ClassId} {ad : Nat → Nat} (X : lX p s m meth c b L xs D g ad) {d : aF} {nO B : Nat} {dx dy mo : Int32} (I : LI d) (h0 : iR (d 0 + dx) (-699) 699) (h1 : iR (d 1 + dy) (-699) 699) (hmo : ¬ mo < 0) {x3 x4 x5 x6 x7 x8 x9 x10 x11 x12 x15 x18 : Value} (kk : ∀ (h' : List mC) (n' : Nat), ST h' (mv d dx dy 5) 5 9 nO B n' → lJ p l e s m below meth c b D g ad 828 [.ref 29, .ref 0, .int 1, x3, x4, x5, x6, x7, x8, x9, x10, x11, x12, .int dx, .int dy, x15, .int mo, .int (nI 5), x18] [] h') : ∀ (k a n : Nat) (h : List mC), a + k = 5 → ST h (mv d dx dy a) 5 9 nO B n → lJ p l e s m below meth c b D g ad 772 [.ref 29, .ref 0, .int 1, x3, x4, x5, x6, x7, x8, x9, x10, x11, x12, .int dx, .int dy, x15, .int mo, .int (nI a), x18] [] h := by
  intro k
  induction k with
  | zero =>
    intro a n h hm S
    obtain rfl : a = 5 := by omega
    refine lJ_iload X dL_law_772 rfl ?_
    refine lJ_iconst X (v := 5) dL_law_774 rfl ?_
    refine lJ_icmp_ge X 828 dL_law_775 rfl (fun c_775 => ?_) (fun c_775 => False.elim (by exact c_775 (nI_le (a := 5) (Nat.le_refl _) (by omega))))
    exact kk h n S
  | succ k ih =>
    intro a n h hm S
    have ha : a < 5 := by omega
    obtain ⟨e1, e2⟩ := mv_at (d := d) (dx := dx) (dy := dy) (show a < 10 by omega)
    obtain ⟨h2, S2, c2⟩ := E_move S ha (mv_rg (I.2.2.2 a ha).1 h0) (mv_rg (iR_mono (I.2.2.2 a ha).2 (by omega) (by omega)) h1)
    have hk := ih (a + 1) (mN n) h2 (by omega) S2
    refine lJ_iload X dL_law_772 rfl ?_
    refine lJ_iconst X (v := 5) dL_law_774 rfl ?_
    refine lJ_icmp_ge X 828 dL_law_775 rfl (fun c_775 => False.elim (by exact nI_ge (b := 5) ha (by omega) c_775)) (fun c_775 => ?_)
    refine lJ_iload_n X dL_law_778 rfl ?_
    refine lJ_if_eq X 828 dL_law_779 rfl (fun c => absurd c (by decide)) (fun _ => ?_)
    refine lJ_iload X dL_law_782 rfl ?_
    refine lJ_if_lt X 828 dL_law_784 rfl (fun c_784 => False.elim (by exact hmo c_784)) (fun c_784 => ?_)
    refine lJ_aload_n X dL_law_787 rfl ?_
    refine lJ_iload X dL_law_788 rfl ?_
    refine lJ_aload_n X dL_law_790 rfl ?_
    refine lJ_iload X dL_law_791 rfl ?_
    refine lJ_iconst X (v := 0) dL_law_793 rfl ?_
    refine lJ_cV2i X dL_law_794 e_X7_anchorOf n_L_19 ⟨Nat.le_of_ble_eq_true rfl, Nat.le_of_ble_eq_true rfl⟩ rfl (Nat.le_of_ble_eq_true rfl) (lCt_val e1 (E_anchor_0 S ha)) ?_
    refine lJ_iload X dL_law_797 rfl ?_
    refine lJ_iadd X dL_law_799 ?_
    refine lJ_aload_n X dL_law_800 rfl ?_
    refine lJ_iload X dL_law_801 rfl ?_
    refine lJ_iconst X (v := 1) dL_law_803 rfl ?_
    refine lJ_cV2i X dL_law_804 e_X7_anchorOf n_L_19 ⟨Nat.le_of_ble_eq_true rfl, Nat.le_of_ble_eq_true rfl⟩ rfl (Nat.le_of_ble_eq_true rfl) (lCt_val e2 (E_anchor_1 S ha)) ?_
    refine lJ_iload X dL_law_807 rfl ?_
    refine lJ_iadd X dL_law_809 ?_
    refine lJ_cV3i X dL_law_810 e_X7_moveAnchor n_L_67 ⟨Nat.le_of_ble_eq_true rfl, Nat.le_of_ble_eq_true rfl⟩ rfl (Nat.le_of_ble_eq_true rfl) (c2) ?_
    refine lJ_if_lt X 820 dL_law_813 rfl (fun c_813 => False.elim (by exact ST_pos S2 c_813)) (fun c_813 => ?_)
    refine lJ_iconst X (v := 1) dL_law_816 rfl ?_
    refine lJ_goto X 821 dL_law_817 rfl ?_
    refine lJ_istore_n X dL_law_821 (Nat.le_of_ble_eq_true rfl) (ls2 := [_, _, _, _, _, _, _, _, _, _, _, _, _, _, _, _, _, _, _]) rfl ?_
    refine lJ_iinc X dL_law_822 rfl (Nat.le_of_ble_eq_true rfl) (v := nI (a + 1)) (nI_1 a) (ls2 := [_, _, _, _, _, _, _, _, _, _, _, _, _, _, _, _, _, _, _]) rfl ?_
    refine lJ_goto X 772 dL_law_825 rfl ?_
    exact hk
set_option maxHeartbeats 4000000 in
set_option maxRecDepth 100000 in
theorem l_settled {p : Program} {l : Launch} {e : Env} {s : State} {m : MethodId} {below : List Frame} {meth : Method} {c : Code} {b L : Nat} {xs : Nat → Int32} {D : va_G} {g : Nat → ClassId} {ad : Nat → Nat} (X : lX p s m meth c b L xs D g ad) {d : aF} {nO B n : Nat} (hset : ∀ i, i < 9 → ¬ (p_all d 5 9 nO).2.1 i = -1 → d (160 + i) = (p_all d 5 9 nO).2.1 i) {x3 x4 x5 x6 x7 x8 x9 x10 x12 x13 x14 x15 x16 x17 x18 : Value} (kk : ∀ h' : List mC, ST h' d 5 9 nO B n → lJ p l e s m below meth c b D g ad 556 [.ref 29, .ref 0, .int 1, x3, x4, x5, x6, x7, x8, x9, x10, .int (nI 9), x12, x13, x14, x15, x16, x17, x18] [] h') : ∀ (k i : Nat) (h : List mC), i + k = 9 → ST h d 5 9 nO B n → lJ p l e s m below meth c b D g ad 503 [.ref 29, .ref 0, .int 1, x3, x4, x5, x6, x7, x8, x9, x10, .int (nI i), x12, x13, x14, x15, x16, x17, x18] [] h := by
  intro k
  induction k with
  | zero =>
    intro i h hm S
    obtain rfl : i = 9 := by omega
    refine lJ_iload X dL_law_503 rfl ?_
    refine lJ_bipush X (v := 9) dL_law_505 rfl ?_
    refine lJ_icmp_ge X 556 dL_law_507 rfl (fun c_507 => ?_) (fun c_507 => False.elim (by exact c_507 (nI_le (a := 9) (Nat.le_refl _) (by omega))))
    exact kk h S
  | succ k ih =>
    intro i h hm S
    have hi : i < 9 := by omega
    obtain ⟨hw, hR, hI⟩ := ST_w S
    obtain ⟨F1, F2, -⟩ := p_facts hw hI hR
    by_cases gs : (p_all d 5 9 nO).2.1 i = -1
    · have wi : 0 < (p_all d 5 9 nO).1 i := by
        rcases F2 i gs with e | ⟨e, -⟩ | e | e | ⟨e, -⟩ <;> rw [e] <;> decide
      have hk := ih (i + 1) h (by omega) S
      refine lJ_iload X dL_law_503 rfl ?_
      refine lJ_bipush X (v := 9) dL_law_505 rfl ?_
      refine lJ_icmp_ge X 556 dL_law_507 rfl (fun c_507 => False.elim (by exact nI_ge (b := 9) hi (by omega) c_507)) (fun c_507 => ?_)
      refine lJ_iload_n X dL_law_510 rfl ?_
      refine lJ_if_eq X 556 dL_law_511 rfl (fun c => absurd c (by decide)) (fun _ => ?_)
      refine lJ_aload_n X dL_law_514 rfl ?_
      refine lJ_iload X dL_law_515 rfl ?_
      refine lJ_bipush X (v := 8) dL_law_517 rfl ?_
      refine lJ_cV2i X dL_law_519 e_X7_hintOf n_L_15 ⟨Nat.le_of_ble_eq_true rfl, Nat.le_of_ble_eq_true rfl⟩ rfl (Nat.le_of_ble_eq_true rfl) (E_hint_8 S hi) ?_
      refine lJ_if_gt X 544 dL_law_522 rfl (fun c_522 => ?_) (fun c_522 => False.elim (by exact c_522 wi))
      refine lJ_iconst X (v := 1) dL_law_544 rfl ?_
      refine lJ_goto X 549 dL_law_545 rfl ?_
      refine lJ_istore_n X dL_law_549 (Nat.le_of_ble_eq_true rfl) (ls2 := [_, _, _, _, _, _, _, _, _, _, _, _, _, _, _, _, _, _, _]) rfl ?_
      refine lJ_iinc X dL_law_550 rfl (Nat.le_of_ble_eq_true rfl) (v := nI (i + 1)) (nI_1 i) (ls2 := [_, _, _, _, _, _, _, _, _, _, _, _, _, _, _, _, _, _, _]) rfl ?_
      refine lJ_goto X 503 dL_law_553 rfl ?_
      exact hk
    · have wi : (p_all d 5 9 nO).1 i = 0 := (F1 i gs).2.1
      have e15 : (if d (160 + i) = -1 then (-10004 : Int32) else d (160 + i)) = (p_all d 5 9 nO).2.1 i := by rw [hset i hi gs, if_neg gs]
      obtain ⟨h2, S2, c2⟩ := E_hint_9 S hi gs
      have hk := ih (i + 1) h2 (by omega) S2
      refine lJ_iload X dL_law_503 rfl ?_
      refine lJ_bipush X (v := 9) dL_law_505 rfl ?_
      refine lJ_icmp_ge X 556 dL_law_507 rfl (fun c_507 => False.elim (by exact nI_ge (b := 9) hi (by omega) c_507)) (fun c_507 => ?_)
      refine lJ_iload_n X dL_law_510 rfl ?_
      refine lJ_if_eq X 556 dL_law_511 rfl (fun c => absurd c (by decide)) (fun _ => ?_)
      refine lJ_aload_n X dL_law_514 rfl ?_
      refine lJ_iload X dL_law_515 rfl ?_
      refine lJ_bipush X (v := 8) dL_law_517 rfl ?_
      refine lJ_cV2i X dL_law_519 e_X7_hintOf n_L_15 ⟨Nat.le_of_ble_eq_true rfl, Nat.le_of_ble_eq_true rfl⟩ rfl (Nat.le_of_ble_eq_true rfl) (lCt_val wi (E_hint_8 S hi)) ?_
      refine lJ_if_gt X 544 dL_law_522 rfl (fun c => absurd c (by decide)) (fun _ => ?_)
      refine lJ_aload_n X dL_law_525 rfl ?_
      refine lJ_iload X dL_law_526 rfl ?_
      refine lJ_bipush X (v := 15) dL_law_528 rfl ?_
      refine lJ_cV2i X dL_law_530 e_X7_hintOf n_L_15 ⟨Nat.le_of_ble_eq_true rfl, Nat.le_of_ble_eq_true rfl⟩ rfl (Nat.le_of_ble_eq_true rfl) (lCt_val e15 (E_hint_15 S hi)) ?_
      refine lJ_aload_n X dL_law_533 rfl ?_
      refine lJ_iload X dL_law_534 rfl ?_
      refine lJ_bipush X (v := 9) dL_law_536 rfl ?_
      refine lJ_cV2i X dL_law_538 e_X7_hintOf n_L_15 ⟨Nat.le_of_ble_eq_true rfl, Nat.le_of_ble_eq_true rfl⟩ rfl (Nat.le_of_ble_eq_true rfl) (c2) ?_
      refine lJ_icmp_ne X 548 dL_law_541 rfl (fun c_541 => False.elim (by exact c_541 rfl)) (fun c_541 => ?_)
      refine lJ_iconst X (v := 1) dL_law_544 rfl ?_
      refine lJ_goto X 549 dL_law_545 rfl ?_
      refine lJ_istore_n X dL_law_549 (Nat.le_of_ble_eq_true rfl) (ls2 := [_, _, _, _, _, _, _, _, _, _, _, _, _, _, _, _, _, _, _]) rfl ?_
      refine lJ_iinc X dL_law_550 rfl (Nat.le_of_ble_eq_true rfl) (v := nI (i + 1)) (nI_1 i) (ls2 := [_, _, _, _, _, _, _, _, _, _, _, _, _, _, _, _, _, _, _]) rfl ?_
      refine lJ_goto X 503 dL_law_553 rfl ?_
      exact hk
