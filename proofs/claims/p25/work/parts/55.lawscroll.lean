/-! THE LAW: view and anchors moved -/
set_option maxHeartbeats 4000000 in
set_option maxRecDepth 100000 in
theorem l_c887 {p : Program} {l : Launch} {e : Env} {s : State} {m : MethodId} {below : List Frame} {meth : Method} {c : Code} {b L : Nat} {xs : Nat → Int32} {D : va_G} {g : Nat → ClassId} {ad : Nat → Nat} (X : lX p s m meth c b L xs D g ad) {d : aF} {nO B n k : Nat} {h : List mC} (S : ST h d 5 9 nO B n) (I : LI d) (hB : B + 1 < 2 ^ 28) (kk : lK p l e s m below meth c b D g ad k B) {u mo : Int32} {x4 x5 x6 x7 x8 x9 x10 x11 x13 x14 x15 x18 : Value} : lJ p l e s m below meth c b D g ad 887 [.ref 29, .ref 0, .int 1, .int (nI k), x4, x5, x6, x7, x8, x9, x10, x11, .int u, x13, x14, x15, .int mo, .int u, x18] [] h := by
  refine lJ_iload_n X dL_law_887 rfl ?_
  refine lJ_if_eq X 907 dL_law_888 rfl (fun c => absurd c (by decide)) (fun _ => ?_)
  refine lJ_iload X dL_law_891 rfl ?_
  refine lJ_if_lt X 903 dL_law_893 rfl (fun c_893 => ?_) (fun c_893 => ?_)
  · refine lJ_iconst X (v := 1) dL_law_903 rfl ?_
    refine lJ_goto X 908 dL_law_904 rfl ?_
    refine lJ_istore_n X dL_law_908 (Nat.le_of_ble_eq_true rfl) (ls2 := [_, _, _, _, _, _, _, _, _, _, _, _, _, _, _, _, _, _, _]) rfl ?_
    refine lJ_goto X 957 dL_law_909 rfl ?_
    exact kk _ _ _ _ _ _ _ _ _ _ _ _ _ _ _ h _ _ _ (ST_mono S (by omega) (by omega)) I
  · refine lJ_iload X dL_law_896 rfl ?_
    refine lJ_iload X dL_law_898 rfl ?_
    refine lJ_icmp_ne X 907 dL_law_900 rfl (fun c_900 => False.elim (by exact c_900 rfl)) (fun c_900 => ?_)
    refine lJ_iconst X (v := 1) dL_law_903 rfl ?_
    refine lJ_goto X 908 dL_law_904 rfl ?_
    refine lJ_istore_n X dL_law_908 (Nat.le_of_ble_eq_true rfl) (ls2 := [_, _, _, _, _, _, _, _, _, _, _, _, _, _, _, _, _, _, _]) rfl ?_
    refine lJ_goto X 957 dL_law_909 rfl ?_
    exact kk _ _ _ _ _ _ _ _ _ _ _ _ _ _ _ h _ _ _ (ST_mono S (by omega) (by omega)) I
set_option maxHeartbeats 4000000 in
set_option maxRecDepth 100000 in
theorem l_far {p : Program} {l : Launch} {e : Env} {s : State} {m : MethodId} {below : List Frame} {meth : Method} {c : Code} {b L : Nat} {xs : Nat → Int32} {D : va_G} {g : Nat → ClassId} {ad : Nat → Nat} (X : lX p s m meth c b L xs D g ad) {d : aF} {nO B n k j y : Nat} {h : List mC} (S : ST h d 5 9 nO B n) (I : LI d) (hj : j < 9) (hy : y < 2 ^ 31) (hB : B + 1 < 2 ^ 28) (kk : lK p l e s m below meth c b D g ad k B) {dx dy : Int32} {x6 x7 x8 x9 x10 x11 x15 x18 : Value} : lJ p l e s m below meth c b D g ad 772 [.ref 29, .ref 0, .int 1, .int (nI k), .int (nI y), .int (nI j), x6, x7, x8, x9, x10, x11, .int (sm (p_all d 5 9 nO).1 (p_all d 5 9 nO).2.1 9), .int dx, .int dy, x15, .int (-1), .int 0, x18] [] h := by
  refine lJ_iload X dL_law_772 rfl ?_
  refine lJ_iconst X (v := 5) dL_law_774 rfl ?_
  refine lJ_icmp_ge X 828 dL_law_775 rfl (fun c => absurd c (by decide)) (fun _ => ?_)
  refine lJ_iload_n X dL_law_778 rfl ?_
  refine lJ_if_eq X 828 dL_law_779 rfl (fun c => absurd c (by decide)) (fun _ => ?_)
  refine lJ_iload X dL_law_782 rfl ?_
  refine lJ_if_lt X 828 dL_law_784 rfl (fun _ => ?_) (fun c => absurd c (by decide))
  refine lJ_iconst X (v := 0) dL_law_828 rfl ?_
  refine lJ_istore X dL_law_829 (Nat.le_of_ble_eq_true rfl) (ls2 := [_, _, _, _, _, _, _, _, _, _, _, _, _, _, _, _, _, _, _]) rfl ?_
  refine lJ_iconst X (v := 0) dL_law_831 rfl ?_
  refine lJ_istore X dL_law_832 (Nat.le_of_ble_eq_true rfl) (ls2 := [_, _, _, _, _, _, _, _, _, _, _, _, _, _, _, _, _, _, _]) rfl ?_
  exact l_sum2 X (fun h3 S3 => l_c887 X S3 I hB kk) 9 0 0 h (by omega) rfl S
set_option maxHeartbeats 4000000 in
set_option maxRecDepth 100000 in
theorem l_828 {p : Program} {l : Launch} {e : Env} {s : State} {m : MethodId} {below : List Frame} {meth : Method} {c : Code} {b L : Nat} {xs : Nat → Int32} {D : va_G} {g : Nat → ClassId} {ad : Nat → Nat} (X : lX p s m meth c b L xs D g ad) {d : aF} {nO B n k : Nat} {h : List mC} {dx dy mo : Int32} (eA : p_all (mv d dx dy 5) 5 9 nO = p_all d 5 9 nO) (S : ST h (mv d dx dy 5) 5 9 nO B n) (I2 : LI (mv d dx dy 5)) (hB : B + 1 < 2 ^ 28) (kk : lK p l e s m below meth c b D g ad k B) {x4 x5 x6 x7 x8 x9 x10 x11 x15 x18 : Value} : lJ p l e s m below meth c b D g ad 828 [.ref 29, .ref 0, .int 1, .int (nI k), x4, x5, x6, x7, x8, x9, x10, x11, .int (sm (p_all d 5 9 nO).1 (p_all d 5 9 nO).2.1 9), .int dx, .int dy, x15, .int mo, .int (nI 5), x18] [] h := by
  rw [← eA]
  refine lJ_iconst X (v := 0) dL_law_828 rfl ?_
  refine lJ_istore X dL_law_829 (Nat.le_of_ble_eq_true rfl) (ls2 := [_, _, _, _, _, _, _, _, _, _, _, _, _, _, _, _, _, _, _]) rfl ?_
  refine lJ_iconst X (v := 0) dL_law_831 rfl ?_
  refine lJ_istore X dL_law_832 (Nat.le_of_ble_eq_true rfl) (ls2 := [_, _, _, _, _, _, _, _, _, _, _, _, _, _, _, _, _, _, _]) rfl ?_
  exact l_sum2 X (fun h4 S4 => l_c887 X S4 I2 hB kk) 9 0 0 h (by omega) rfl S
set_option maxHeartbeats 4000000 in
set_option maxRecDepth 100000 in
theorem l_near {p : Program} {l : Launch} {e : Env} {s : State} {m : MethodId} {below : List Frame} {meth : Method} {c : Code} {b L : Nat} {xs : Nat → Int32} {D : va_G} {g : Nat → ClassId} {ad : Nat → Nat} (X : lX p s m meth c b L xs D g ad) {d : aF} {nO B n k j y : Nat} {h : List mC} (S : ST h d 5 9 nO B n) (I : LI d) (hj : j < 9) (hy : y < 2 ^ 31) (hB : B + 1 < 2 ^ 28) (kk : lK p l e s m below meth c b D g ad k B) {dx dy : Int32} (hdx : iR dx (-50) 50) (hdy : iR dy (-50) 50) (h0 : iR (d 0 + dx) (-699) 699) (h1 : iR (d 1 + dy) (-699) 699) {x6 x7 x8 x9 x10 x11 x16 x17 x18 : Value} : lJ p l e s m below meth c b D g ad 755 [.ref 29, .ref 0, .int 1, .int (nI k), .int (nI y), .int (nI j), x6, x7, x8, x9, x10, x11, .int (sm (p_all d 5 9 nO).1 (p_all d 5 9 nO).2.1 9), .int dx, .int dy, .int 1, x16, x17, x18] [] h := by
  obtain ⟨hw, hR, hI⟩ := ST_w S
  obtain ⟨h2, S2, c2⟩ := E_scroll S (rg_R (a' := -1000) (b' := 1000) hdx (by decide) (by decide) (by omega) (by omega)) (rg_R (a' := -1000) (b' := 1000) hdy (by decide) (by decide) (by omega) (by omega)) ⟨rg_R (a' := -2000) (b' := 2000) h0 (by decide) (by decide) (by omega) (by omega), rg_R (a' := -2000) (b' := 2000) h1 (by decide) (by decide) (by omega) (by omega)⟩
  have eA : p_all (mv d dx dy 5) 5 9 nO = p_all d 5 9 nO := tr_all hw hI hR mv_tr (iR_mono hdx (by omega) (by omega)) (iR_mono hdy (by omega) (by omega)) (fun i hi => mv_ne (by omega) (by omega) (by omega))
  have I2 := mv_LI I h0 h1
  refine lJ_aload_n X dL_law_755 rfl ?_
  refine lJ_iload X dL_law_756 rfl ?_
  refine lJ_iload X dL_law_758 rfl ?_
  refine lJ_cV2i X dL_law_760 e_X7_scroll n_L_64 ⟨Nat.le_of_ble_eq_true rfl, Nat.le_of_ble_eq_true rfl⟩ rfl (Nat.le_of_ble_eq_true rfl) (c2) ?_
  refine lJ_goto X 767 dL_law_763 rfl ?_
  refine lJ_istore X dL_law_767 (Nat.le_of_ble_eq_true rfl) (ls2 := [_, _, _, _, _, _, _, _, _, _, _, _, _, _, _, _, _, _, _]) rfl ?_
  refine lJ_iconst X (v := 0) dL_law_769 rfl ?_
  refine lJ_istore X dL_law_770 (Nat.le_of_ble_eq_true rfl) (ls2 := [_, _, _, _, _, _, _, _, _, _, _, _, _, _, _, _, _, _, _]) rfl ?_
  exact l_moves X I h0 h1 (ST_pos S2) (fun h3 n3 S3 => l_828 X eA S3 I2 hB kk) 5 0 _ h2 (by omega) S2
set_option maxHeartbeats 4000000 in
set_option maxRecDepth 100000 in
theorem l_659 {p : Program} {l : Launch} {e : Env} {s : State} {m : MethodId} {below : List Frame} {meth : Method} {c : Code} {b L : Nat} {xs : Nat → Int32} {D : va_G} {g : Nat → ClassId} {ad : Nat → Nat} (X : lX p s m meth c b L xs D g ad) {d : aF} {nO B n k j y : Nat} {h : List mC} (S : ST h d 5 9 nO B n) (I : LI d) (hj : j < 9) (hy : y < 2 ^ 31) (hB : B + 1 < 2 ^ 28) (kk : lK p l e s m below meth c b D g ad k B) {x6 x7 x8 x9 x10 x11 x14 x15 x16 x17 x18 : Value} : lJ p l e s m below meth c b D g ad 659 [.ref 29, .ref 0, .int 1, .int (nI k), .int (nI y), .int (nI j), x6, x7, x8, x9, x10, x11, .int (sm (p_all d 5 9 nO).1 (p_all d 5 9 nO).2.1 9), .int (nI 9), x14, x15, x16, x17, x18] [] h := by
  have g1 : y / 128 % 101 < 101 := Nat.mod_lt _ (by omega)
  have g2 : y / 16384 % 101 < 101 := Nat.mod_lt _ (by omega)
  refine lJ_iload X dL_law_659 rfl ?_
  refine lJ_sipush X (v := 128) dL_law_661 rfl ?_
  refine lJ_idiv X dL_law_664 (by decide) ?_
  refine lJ_top (pk_div (d := 128) (by omega) (by decide) (by decide)) ?_
  refine lJ_bipush X (v := 101) dL_law_665 rfl ?_
  refine lJ_irem X dL_law_667 (by decide) ?_
  refine lJ_top (pk_rem (d := 101) (by omega) (by decide) (by decide)) ?_
  refine lJ_bipush X (v := 50) dL_law_668 rfl ?_
  refine lJ_isub X dL_law_670 ?_
  refine lJ_istore X dL_law_671 (Nat.le_of_ble_eq_true rfl) (ls2 := [_, _, _, _, _, _, _, _, _, _, _, _, _, _, _, _, _, _, _]) rfl ?_
  refine lJ_iload X dL_law_673 rfl ?_
  refine lJ_sipush X (v := 16384) dL_law_675 rfl ?_
  refine lJ_idiv X dL_law_678 (by decide) ?_
  refine lJ_top (pk_div (d := 16384) (by omega) (by decide) (by decide)) ?_
  refine lJ_bipush X (v := 101) dL_law_679 rfl ?_
  refine lJ_irem X dL_law_681 (by decide) ?_
  refine lJ_top (pk_rem (d := 101) (by omega) (by decide) (by decide)) ?_
  refine lJ_bipush X (v := 50) dL_law_682 rfl ?_
  refine lJ_isub X dL_law_684 ?_
  refine lJ_istore X dL_law_685 (Nat.le_of_ble_eq_true rfl) (ls2 := [_, _, _, _, _, _, _, _, _, _, _, _, _, _, _, _, _, _, _]) rfl ?_
  refine lJ_aload_n X dL_law_687 rfl ?_
  refine lJ_iconst X (v := 0) dL_law_688 rfl ?_
  refine lJ_cV1i X dL_law_689 e_X7_count n_L_9 ⟨Nat.le_of_ble_eq_true rfl, Nat.le_of_ble_eq_true rfl⟩ rfl (Nat.le_of_ble_eq_true rfl) (E_count_0 S) ?_
  refine lJ_iload X dL_law_692 rfl ?_
  refine lJ_iadd X dL_law_694 ?_
  refine lJ_sipush X (v := (-700)) dL_law_695 rfl ?_
  refine lJ_icmp_le X 747 dL_law_698 rfl (fun c_698 => ?_) (fun c_698 => ?_)
  · refine lJ_iconst X (v := 0) dL_law_747 rfl ?_
    refine lJ_istore X dL_law_748 (Nat.le_of_ble_eq_true rfl) (ls2 := [_, _, _, _, _, _, _, _, _, _, _, _, _, _, _, _, _, _, _]) rfl ?_
    refine lJ_iload X dL_law_750 rfl ?_
    refine lJ_if_eq X 766 dL_law_752 rfl (fun _ => ?_) (fun c => absurd c (by decide))
    refine lJ_iconst X (v := (-1)) dL_law_766 rfl ?_
    refine lJ_istore X dL_law_767 (Nat.le_of_ble_eq_true rfl) (ls2 := [_, _, _, _, _, _, _, _, _, _, _, _, _, _, _, _, _, _, _]) rfl ?_
    refine lJ_iconst X (v := 0) dL_law_769 rfl ?_
    refine lJ_istore X dL_law_770 (Nat.le_of_ble_eq_true rfl) (ls2 := [_, _, _, _, _, _, _, _, _, _, _, _, _, _, _, _, _, _, _]) rfl ?_
    exact l_far X S I hj hy hB kk
  · refine lJ_aload_n X dL_law_701 rfl ?_
    refine lJ_iconst X (v := 0) dL_law_702 rfl ?_
    refine lJ_cV1i X dL_law_703 e_X7_count n_L_9 ⟨Nat.le_of_ble_eq_true rfl, Nat.le_of_ble_eq_true rfl⟩ rfl (Nat.le_of_ble_eq_true rfl) (E_count_0 S) ?_
    refine lJ_iload X dL_law_706 rfl ?_
    refine lJ_iadd X dL_law_708 ?_
    refine lJ_sipush X (v := 700) dL_law_709 rfl ?_
    refine lJ_icmp_ge X 747 dL_law_712 rfl (fun c_712 => ?_) (fun c_712 => ?_)
    · refine lJ_iconst X (v := 0) dL_law_747 rfl ?_
      refine lJ_istore X dL_law_748 (Nat.le_of_ble_eq_true rfl) (ls2 := [_, _, _, _, _, _, _, _, _, _, _, _, _, _, _, _, _, _, _]) rfl ?_
      refine lJ_iload X dL_law_750 rfl ?_
      refine lJ_if_eq X 766 dL_law_752 rfl (fun _ => ?_) (fun c => absurd c (by decide))
      refine lJ_iconst X (v := (-1)) dL_law_766 rfl ?_
      refine lJ_istore X dL_law_767 (Nat.le_of_ble_eq_true rfl) (ls2 := [_, _, _, _, _, _, _, _, _, _, _, _, _, _, _, _, _, _, _]) rfl ?_
      refine lJ_iconst X (v := 0) dL_law_769 rfl ?_
      refine lJ_istore X dL_law_770 (Nat.le_of_ble_eq_true rfl) (ls2 := [_, _, _, _, _, _, _, _, _, _, _, _, _, _, _, _, _, _, _]) rfl ?_
      exact l_far X S I hj hy hB kk
    · refine lJ_aload_n X dL_law_715 rfl ?_
      refine lJ_iconst X (v := 1) dL_law_716 rfl ?_
      refine lJ_cV1i X dL_law_717 e_X7_count n_L_9 ⟨Nat.le_of_ble_eq_true rfl, Nat.le_of_ble_eq_true rfl⟩ rfl (Nat.le_of_ble_eq_true rfl) (E_count_1 S) ?_
      refine lJ_iload X dL_law_720 rfl ?_
      refine lJ_iadd X dL_law_722 ?_
      refine lJ_sipush X (v := (-700)) dL_law_723 rfl ?_
      refine lJ_icmp_le X 747 dL_law_726 rfl (fun c_726 => ?_) (fun c_726 => ?_)
      · refine lJ_iconst X (v := 0) dL_law_747 rfl ?_
        refine lJ_istore X dL_law_748 (Nat.le_of_ble_eq_true rfl) (ls2 := [_, _, _, _, _, _, _, _, _, _, _, _, _, _, _, _, _, _, _]) rfl ?_
        refine lJ_iload X dL_law_750 rfl ?_
        refine lJ_if_eq X 766 dL_law_752 rfl (fun _ => ?_) (fun c => absurd c (by decide))
        refine lJ_iconst X (v := (-1)) dL_law_766 rfl ?_
        refine lJ_istore X dL_law_767 (Nat.le_of_ble_eq_true rfl) (ls2 := [_, _, _, _, _, _, _, _, _, _, _, _, _, _, _, _, _, _, _]) rfl ?_
        refine lJ_iconst X (v := 0) dL_law_769 rfl ?_
        refine lJ_istore X dL_law_770 (Nat.le_of_ble_eq_true rfl) (ls2 := [_, _, _, _, _, _, _, _, _, _, _, _, _, _, _, _, _, _, _]) rfl ?_
        exact l_far X S I hj hy hB kk
      · refine lJ_aload_n X dL_law_729 rfl ?_
        refine lJ_iconst X (v := 1) dL_law_730 rfl ?_
        refine lJ_cV1i X dL_law_731 e_X7_count n_L_9 ⟨Nat.le_of_ble_eq_true rfl, Nat.le_of_ble_eq_true rfl⟩ rfl (Nat.le_of_ble_eq_true rfl) (E_count_1 S) ?_
        refine lJ_iload X dL_law_734 rfl ?_
        refine lJ_iadd X dL_law_736 ?_
        refine lJ_sipush X (v := 700) dL_law_737 rfl ?_
        refine lJ_icmp_ge X 747 dL_law_740 rfl (fun c_740 => ?_) (fun c_740 => ?_)
        · refine lJ_iconst X (v := 0) dL_law_747 rfl ?_
          refine lJ_istore X dL_law_748 (Nat.le_of_ble_eq_true rfl) (ls2 := [_, _, _, _, _, _, _, _, _, _, _, _, _, _, _, _, _, _, _]) rfl ?_
          refine lJ_iload X dL_law_750 rfl ?_
          refine lJ_if_eq X 766 dL_law_752 rfl (fun _ => ?_) (fun c => absurd c (by decide))
          refine lJ_iconst X (v := (-1)) dL_law_766 rfl ?_
          refine lJ_istore X dL_law_767 (Nat.le_of_ble_eq_true rfl) (ls2 := [_, _, _, _, _, _, _, _, _, _, _, _, _, _, _, _, _, _, _]) rfl ?_
          refine lJ_iconst X (v := 0) dL_law_769 rfl ?_
          refine lJ_istore X dL_law_770 (Nat.le_of_ble_eq_true rfl) (ls2 := [_, _, _, _, _, _, _, _, _, _, _, _, _, _, _, _, _, _, _]) rfl ?_
          exact l_far X S I hj hy hB kk
        · refine lJ_iconst X (v := 1) dL_law_743 rfl ?_
          refine lJ_goto X 748 dL_law_744 rfl ?_
          refine lJ_istore X dL_law_748 (Nat.le_of_ble_eq_true rfl) (ls2 := [_, _, _, _, _, _, _, _, _, _, _, _, _, _, _, _, _, _, _]) rfl ?_
          refine lJ_iload X dL_law_750 rfl ?_
          refine lJ_if_eq X 766 dL_law_752 rfl (fun c => absurd c (by decide)) (fun _ => ?_)
          exact l_near X S I hj hy hB kk (dl_R (by omega)) (dl_R (by omega)) (near_R c_698 c_712) (near_R c_726 c_740)
set_option maxHeartbeats 4000000 in
set_option maxRecDepth 100000 in
theorem l_c600 {p : Program} {l : Launch} {e : Env} {s : State} {m : MethodId} {below : List Frame} {meth : Method} {c : Code} {b L : Nat} {xs : Nat → Int32} {D : va_G} {g : Nat → ClassId} {ad : Nat → Nat} (X : lX p s m meth c b L xs D g ad) {d : aF} {nO B n k j y : Nat} {h : List mC} (S : ST h d 5 9 nO B n) (I : LI d) (hj : j < 9) (hy : y < 2 ^ 31) (hB : B + 1 < 2 ^ 28) (kk : lK p l e s m below meth c b D g ad k B) {x6 x7 x8 x9 x10 x11 x12 x13 x14 x15 x16 x17 x18 : Value} : lJ p l e s m below meth c b D g ad 600 [.ref 29, .ref 0, .int 1, .int (nI k), .int (nI y), .int (nI j), x6, x7, x8, x9, x10, x11, x12, x13, x14, x15, x16, x17, x18] [] h := by
  refine lJ_iconst X (v := 0) dL_law_600 rfl ?_
  refine lJ_istore X dL_law_601 (Nat.le_of_ble_eq_true rfl) (ls2 := [_, _, _, _, _, _, _, _, _, _, _, _, _, _, _, _, _, _, _]) rfl ?_
  refine lJ_iconst X (v := 0) dL_law_603 rfl ?_
  refine lJ_istore X dL_law_604 (Nat.le_of_ble_eq_true rfl) (ls2 := [_, _, _, _, _, _, _, _, _, _, _, _, _, _, _, _, _, _, _]) rfl ?_
  exact l_sum1 X (fun h2 S2 => l_659 X S2 I hj hy hB kk) 9 0 0 h (by omega) rfl S
