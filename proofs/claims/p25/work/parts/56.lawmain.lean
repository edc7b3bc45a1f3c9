/-! THE LAW: its last calls, its steps, its hints and anchors, its start -/
theorem iR_nn {x : Int32} {hi : Int} (h : iR x 0 hi) : ¬ x < 0 := by
  rw [Int32.lt_iff_toInt_lt]
  have := h.1
  have e : (0 : Int32).toInt = 0 := by decide
  omega
set_option maxHeartbeats 4000000 in
set_option maxRecDepth 100000 in
theorem l_1003 {p : Program} {l : Launch} {e : Env} {s : State} {m : MethodId} {below : List Frame} {meth : Method} {c : Code} {b L : Nat} {xs : Nat → Int32} {D : va_G} {g : Nat → ClassId} {ad : Nat → Nat} (X : lX p s m meth c b L xs D g ad) {d : aF} {nO B n : Nat} {h : List mC} (S : ST h d 5 9 nO B n) {x3 x4 x5 x6 x7 x8 x9 x10 x11 x12 x13 x14 x15 x16 x17 x18 : Value} : lJ p l e s m below meth c b D g ad 1003 [.ref 29, .ref 0, .int 1, x3, x4, x5, x6, x7, x8, x9, x10, x11, x12, x13, x14, x15, x16, x17, x18] [] h := by
  obtain ⟨hw, hR, hI⟩ := ST_w S
  obtain ⟨n1, en⟩ := mN_pos n
  obtain ⟨h2, S2, c2⟩ := E_alter (j := 0) (k := 7) (v := 9) S (by omega) (by omega) (by omega) (Or.inr (Or.inr (Or.inr (Or.inr (Or.inr (Or.inr (Or.inr ⟨rfl, ⟨by decide, by decide⟩⟩)))))))
  rw [en] at S2
  have l5 := ST_n S2
  obtain ⟨h3, S3, hl3, c3⟩ := E_holds S2
  obtain ⟨h4, d4, a1, a2, a3, S4, c4⟩ := E_undo S3
  obtain ⟨h5, S5, hl5, c5⟩ := E_holds S4
  refine lJ_aload_n X dL_law_1003 rfl ?_
  refine lJ_iconst X (v := 0) dL_law_1004 rfl ?_
  refine lJ_bipush X (v := 7) dL_law_1005 rfl ?_
  refine lJ_bipush X (v := 9) dL_law_1007 rfl ?_
  refine lJ_cV3i X dL_law_1009 e_X7_alter n_L_51 ⟨Nat.le_of_ble_eq_true rfl, Nat.le_of_ble_eq_true rfl⟩ rfl (Nat.le_of_ble_eq_true rfl) (c2) ?_
  refine lJ_if_lt X 1019 dL_law_1012 rfl (fun c_1012 => False.elim (by exact iR_nn (hR.2.1 0 (by omega)).2.2.2.2.2 c_1012)) (fun c_1012 => ?_)
  refine lJ_iconst X (v := 1) dL_law_1015 rfl ?_
  refine lJ_goto X 1020 dL_law_1016 rfl ?_
  refine lJ_istore_n X dL_law_1020 (Nat.le_of_ble_eq_true rfl) (ls2 := [_, _, _, _, _, _, _, _, _, _, _, _, _, _, _, _, _, _, _]) rfl ?_
  refine lJ_aload_n X dL_law_1021 rfl ?_
  refine lJ_bipush X (v := 9) dL_law_1022 rfl ?_
  refine lJ_cV1i X dL_law_1024 e_X7_count n_L_9 ⟨Nat.le_of_ble_eq_true rfl, Nat.le_of_ble_eq_true rfl⟩ rfl (Nat.le_of_ble_eq_true rfl) (E_count_9 S2) ?_
  refine lJ_istore_n X dL_law_1027 (Nat.le_of_ble_eq_true rfl) (ls2 := [_, _, _, _, _, _, _, _, _, _, _, _, _, _, _, _, _, _, _]) rfl ?_
  refine lJ_iload_n X dL_law_1028 rfl ?_
  refine lJ_if_eq X 1064 dL_law_1029 rfl (fun c => absurd c (by decide)) (fun _ => ?_)
  refine lJ_aload_n X dL_law_1032 rfl ?_
  refine lJ_cS1i X dL_law_1033 e_L_holds n_L_30 ⟨Nat.le_of_ble_eq_true rfl, Nat.le_of_ble_eq_true rfl⟩ (Nat.le_of_ble_eq_true rfl) (⟨hl3, c3⟩) ?_
  refine lJ_if_eq X 1064 dL_law_1036 rfl (fun c => absurd c (by decide)) (fun _ => ?_)
  refine lJ_iload_n X dL_law_1039 rfl ?_
  refine lJ_if_le X 1064 dL_law_1040 rfl (fun c_1040 => False.elim (by exact nI_nle (by omega) (by omega) c_1040)) (fun c_1040 => ?_)
  refine lJ_aload_n X dL_law_1043 rfl ?_
  refine lJ_cV0i X dL_law_1044 e_X7_undo n_L_73 ⟨Nat.le_of_ble_eq_true rfl, Nat.le_of_ble_eq_true rfl⟩ rfl (Nat.le_of_ble_eq_true rfl) (c4) ?_
  refine lJ_iload_n X dL_law_1047 rfl ?_
  refine lJ_iconst X (v := 1) dL_law_1048 rfl ?_
  refine lJ_isub X dL_law_1049 ?_
  refine lJ_icmp_ne X 1064 dL_law_1050 rfl (fun c_1050 => False.elim (by exact c_1050 (nI_pred n1).symm)) (fun c_1050 => ?_)
  refine lJ_aload_n X dL_law_1053 rfl ?_
  refine lJ_cS1i X dL_law_1054 e_L_holds n_L_30 ⟨Nat.le_of_ble_eq_true rfl, Nat.le_of_ble_eq_true rfl⟩ (Nat.le_of_ble_eq_true rfl) (⟨hl5, c5⟩) ?_
  refine lJ_if_eq X 1064 dL_law_1057 rfl (fun c => absurd c (by decide)) (fun _ => ?_)
  refine lJ_iconst X (v := 1) dL_law_1060 rfl ?_
  refine lJ_goto X 1065 dL_law_1061 rfl ?_
  exact lJ_end X dL_law_1065
set_option maxHeartbeats 4000000 in
set_option maxRecDepth 100000 in
theorem l_tail {p : Program} {l : Launch} {e : Env} {s : State} {m : MethodId} {below : List Frame} {meth : Method} {c : Code} {b L : Nat} {xs : Nat → Int32} {D : va_G} {g : Nat → ClassId} {ad : Nat → Nat} (X : lX p s m meth c b L xs D g ad) {d : aF} {nO B n : Nat} {h : List mC} (S : ST h d 5 9 nO B n) (hB : B + 1 < 2 ^ 28) {x3 x4 x5 x6 x7 x8 x9 x10 x11 x12 x13 x14 x15 x16 x17 x18 : Value} : lJ p l e s m below meth c b D g ad 980 [.ref 29, .ref 0, .int 1, x3, x4, x5, x6, x7, x8, x9, x10, x11, x12, x13, x14, x15, x16, x17, x18] [] h := by
  obtain ⟨hw, hR, hI⟩ := ST_w S
  obtain ⟨F1, F2, F3, F4, -⟩ := p_facts hw hI hR
  by_cases gk : 0 ∈ ordL d nO
  · have wj : ¬ (p_all d 5 9 nO).1 0 = 1 := fun z => (F4 0).mp z gk
    refine lJ_iload_n X dL_law_980 rfl ?_
    refine lJ_if_eq X 1019 dL_law_981 rfl (fun c => absurd c (by decide)) (fun _ => ?_)
    refine lJ_aload_n X dL_law_984 rfl ?_
    refine lJ_iconst X (v := 0) dL_law_985 rfl ?_
    refine lJ_bipush X (v := 8) dL_law_986 rfl ?_
    refine lJ_cV2i X dL_law_988 e_X7_hintOf n_L_15 ⟨Nat.le_of_ble_eq_true rfl, Nat.le_of_ble_eq_true rfl⟩ rfl (Nat.le_of_ble_eq_true rfl) (E_hint_8 (i := 0) S (by omega)) ?_
    refine lJ_iconst X (v := 1) dL_law_991 rfl ?_
    refine lJ_icmp_ne X 1003 dL_law_992 rfl (fun c_992 => ?_) (fun c_992 => False.elim (by exact wj c_992))
    exact l_1003 X S
  · have wj : (p_all d 5 9 nO).1 0 = 1 := (F4 0).mpr gk
    obtain ⟨h2, S2, c2⟩ := E_open (k := 0) S (by omega) gk hB
    obtain ⟨hw2, hR2, hI2⟩ := ST_w S2
    refine lJ_iload_n X dL_law_980 rfl ?_
    refine lJ_if_eq X 1019 dL_law_981 rfl (fun c => absurd c (by decide)) (fun _ => ?_)
    refine lJ_aload_n X dL_law_984 rfl ?_
    refine lJ_iconst X (v := 0) dL_law_985 rfl ?_
    refine lJ_bipush X (v := 8) dL_law_986 rfl ?_
    refine lJ_cV2i X dL_law_988 e_X7_hintOf n_L_15 ⟨Nat.le_of_ble_eq_true rfl, Nat.le_of_ble_eq_true rfl⟩ rfl (Nat.le_of_ble_eq_true rfl) (lCt_val wj (E_hint_8 (i := 0) S (by omega))) ?_
    refine lJ_iconst X (v := 1) dL_law_991 rfl ?_
    refine lJ_icmp_ne X 1003 dL_law_992 rfl (fun c => absurd c (by decide)) (fun _ => ?_)
    refine lJ_aload_n X dL_law_995 rfl ?_
    refine lJ_iconst X (v := 0) dL_law_996 rfl ?_
    refine lJ_cV1i X dL_law_997 e_X7_open n_L_54 ⟨Nat.le_of_ble_eq_true rfl, Nat.le_of_ble_eq_true rfl⟩ rfl (Nat.le_of_ble_eq_true rfl) (c2) ?_
    refine lJ_if_lt X 1019 dL_law_1000 rfl (fun c_1000 => False.elim (by exact why_R hw2 hI2 hR2 0 c_1000)) (fun c_1000 => ?_)
    exact l_1003 X S2
set_option maxHeartbeats 4000000 in
set_option maxRecDepth 100000 in
theorem l_main {p : Program} {l : Launch} {e : Env} {s : State} {m : MethodId} {below : List Frame} {meth : Method} {c : Code} {b L : Nat} {xs : Nat → Int32} {D : va_G} {g : Nat → ClassId} {ad : Nat → Nat} (X : lX p s m meth c b L xs D g ad) : ∀ (q k : Nat) (x4 x5 x6 x7 x8 x9 x10 x11 x12 x13 x14 x15 x16 x17 x18 : Value) (h : List mC) (d : aF) (nO n : Nat), k + q = 26 → ST h d 5 9 nO k n → LI d → lJ p l e s m below meth c b D g ad 242 [.ref 29, .ref 0, .int 1, .int (nI k), x4, x5, x6, x7, x8, x9, x10, x11, x12, x13, x14, x15, x16, x17, x18] [] h := by
  intro q
  induction q with
  | zero =>
    intro k x4 x5 x6 x7 x8 x9 x10 x11 x12 x13 x14 x15 x16 x17 x18 h d nO n hm S I
    obtain rfl : k = 26 := by omega
    refine lJ_iload_n X dL_law_242 rfl ?_
    refine lJ_bipush X (v := 26) dL_law_243 rfl ?_
    refine lJ_icmp_ge X 980 dL_law_245 rfl (fun c_245 => ?_) (fun c_245 => False.elim (by exact c_245 (nI_le (a := 26) (Nat.le_refl _) (by omega))))
    exact l_tail X S (by omega)
  | succ q ih =>
    intro k x4 x5 x6 x7 x8 x9 x10 x11 x12 x13 x14 x15 x16 x17 x18 h d nO n hm S I
    have hk26 : k < 26 := by omega
    obtain ⟨y, hy, ey⟩ := cv_pos L xs (16 + k)
    have kk : lK p l e s m below meth c b D g ad k k := by
      intro x4 x5 x6 x7 x8 x9 x10 x11 x12 x13 x14 x15 x16 x17 x18 h d nO n S I
      obtain ⟨h2, S2, hl2, c2⟩ := E_holds S
      have hk := ih (k + 1) x4 x5 x6 x7 x8 x9 x10 x11 x12 x13 x14 x15 x16 x17 x18 h2 d nO n (by omega) S2 I
      refine lJ_iload_n X dL_law_957 rfl ?_
      refine lJ_if_eq X 972 dL_law_958 rfl (fun c => absurd c (by decide)) (fun _ => ?_)
      refine lJ_aload_n X dL_law_961 rfl ?_
      refine lJ_cS1i X dL_law_962 e_L_holds n_L_30 ⟨Nat.le_of_ble_eq_true rfl, Nat.le_of_ble_eq_true rfl⟩ (Nat.le_of_ble_eq_true rfl) (⟨hl2, c2⟩) ?_
      refine lJ_if_eq X 972 dL_law_965 rfl (fun c => absurd c (by decide)) (fun _ => ?_)
      refine lJ_iconst X (v := 1) dL_law_968 rfl ?_
      refine lJ_goto X 973 dL_law_969 rfl ?_
      refine lJ_istore_n X dL_law_973 (Nat.le_of_ble_eq_true rfl) (ls2 := [_, _, _, _, _, _, _, _, _, _, _, _, _, _, _, _, _, _, _]) rfl ?_
      refine lJ_iinc X dL_law_974 rfl (Nat.le_of_ble_eq_true rfl) (v := nI (k + 1)) (nI_1 k) (ls2 := [_, _, _, _, _, _, _, _, _, _, _, _, _, _, _, _, _, _, _]) rfl ?_
      refine lJ_goto X 242 dL_law_977 rfl ?_
      exact hk
    have hj : y / 8 % 9 < 9 := Nat.mod_lt _ (by omega)
    refine lJ_iload_n X dL_law_242 rfl ?_
    refine lJ_bipush X (v := 26) dL_law_243 rfl ?_
    refine lJ_icmp_ge X 980 dL_law_245 rfl (fun c_245 => False.elim (by exact nI_ge (b := 26) hk26 (by omega) c_245)) (fun c_245 => ?_)
    refine lJ_iload_n X dL_law_248 rfl ?_
    refine lJ_if_eq X 980 dL_law_249 rfl (fun c => absurd c (by decide)) (fun _ => ?_)
    refine lJ_aload_n X dL_law_252 rfl ?_
    refine lJ_bipush X (v := 16) dL_law_253 rfl ?_
    refine lJ_iload_n X dL_law_255 rfl ?_
    refine lJ_iadd X dL_law_256 ?_
    refine lJ_cS2i X dL_law_257 e_L_cell n_L_36 ⟨Nat.le_of_ble_eq_true rfl, Nat.le_of_ble_eq_true rfl⟩ (Nat.le_of_ble_eq_true rfl) (⟨nI_add 16 k, by omega, ey⟩) ?_
    refine lJ_istore X dL_law_260 (Nat.le_of_ble_eq_true rfl) (ls2 := [_, _, _, _, _, _, _, _, _, _, _, _, _, _, _, _, _, _, _]) rfl ?_
    refine lJ_iload X dL_law_262 rfl ?_
    refine lJ_bipush X (v := 8) dL_law_264 rfl ?_
    refine lJ_idiv X dL_law_266 (by decide) ?_
    refine lJ_top (pk_div (d := 8) (by omega) (by decide) (by decide)) ?_
    refine lJ_bipush X (v := 9) dL_law_267 rfl ?_
    refine lJ_irem X dL_law_269 (by decide) ?_
    refine lJ_top (pk_rem (d := 9) (by omega) (by decide) (by decide)) ?_
    refine lJ_istore X dL_law_270 (Nat.le_of_ble_eq_true rfl) (ls2 := [_, _, _, _, _, _, _, _, _, _, _, _, _, _, _, _, _, _, _]) rfl ?_
    refine lJ_iload X dL_law_272 rfl ?_
    refine lJ_bipush X (v := 8) dL_law_274 rfl ?_
    refine lJ_irem X dL_law_276 (by decide) ?_
    refine lJ_top (pk_rem (d := 8) (by omega) (by decide) (by decide)) ?_
    refine lJ_case 0 (fun s_277_0 => ?_) (fun s_277_0 => ?_)
    · refine lJ_tin X 320 dL_law_277 (by decide) (by decide) rfl rfl ?_
      exact l_c320 X S I hj hy (by omega) kk
    refine lJ_case 1 (fun s_277_1 => ?_) (fun s_277_1 => ?_)
    · refine lJ_tin X 320 dL_law_277 (by decide) (by decide) rfl rfl ?_
      exact l_c320 X S I hj hy (by omega) kk
    refine lJ_case 2 (fun s_277_2 => ?_) (fun s_277_2 => ?_)
    · refine lJ_tin X 320 dL_law_277 (by decide) (by decide) rfl rfl ?_
      exact l_c320 X S I hj hy (by omega) kk
    refine lJ_case 3 (fun s_277_3 => ?_) (fun s_277_3 => ?_)
    · refine lJ_tin X 396 dL_law_277 (by decide) (by decide) rfl rfl ?_
      exact l_c396 X S I hj hy (by omega) kk
    refine lJ_case 4 (fun s_277_4 => ?_) (fun s_277_4 => ?_)
    · refine lJ_tin X 472 dL_law_277 (by decide) (by decide) rfl rfl ?_
      exact l_c472 X S I hj hy (by omega) kk
    refine lJ_case 5 (fun s_277_5 => ?_) (fun s_277_5 => ?_)
    · refine lJ_tin X 559 dL_law_277 (by decide) (by decide) rfl rfl ?_
      exact l_c559 X S I hj hy (by omega) kk
    refine lJ_case 6 (fun s_277_6 => ?_) (fun s_277_6 => ?_)
    · refine lJ_tin X 600 dL_law_277 (by decide) (by decide) rfl rfl ?_
      exact l_c600 X S I hj hy (by omega) kk
    refine lJ_tout X 912 dL_law_277 (m_out (fun z z1 z2 z3 => ?_)) rfl ?_
    · rcases (show z = 0 ∨ z = 1 ∨ z = 2 ∨ z = 3 ∨ z = 4 ∨ z = 5 ∨ z = 6 by omega) with rfl | rfl | rfl | rfl | rfl | rfl | rfl
      · exact s_277_0 (Int32.toInt_inj.mp z3)
      · exact s_277_1 (Int32.toInt_inj.mp z3)
      · exact s_277_2 (Int32.toInt_inj.mp z3)
      · exact s_277_3 (Int32.toInt_inj.mp z3)
      · exact s_277_4 (Int32.toInt_inj.mp z3)
      · exact s_277_5 (Int32.toInt_inj.mp z3)
      · exact s_277_6 (Int32.toInt_inj.mp z3)
    · exact l_c912 X S I hj hy (by omega) kk
set_option maxHeartbeats 4000000 in
set_option maxRecDepth 100000 in
theorem l_hints {p : Program} {l : Launch} {e : Env} {s : State} {m : MethodId} {below : List Frame} {meth : Method} {c : Code} {b L : Nat} {xs : Nat → Int32} {D : va_G} {g : Nat → ClassId} {ad : Nat → Nat} (X : lX p s m meth c b L xs D g ad) : ∀ (q k : Nat) (x4 x5 x6 x7 x8 x9 x10 x11 x12 x13 x14 x15 x16 x17 x18 : Value) (h : List mC) (d : aF) (n : Nat), k + q = 9 → ST h d 5 k 0 0 n → LA d 5 → lJ p l e s m below meth c b D g ad 129 [.ref 29, .ref 0, .int 1, .int (nI k), x4, x5, x6, x7, x8, x9, x10, x11, x12, x13, x14, x15, x16, x17, x18] [] h := by
  intro q
  induction q with
  | zero =>
    intro k x4 x5 x6 x7 x8 x9 x10 x11 x12 x13 x14 x15 x16 x17 x18 h d n hm S I
    obtain rfl : k = 9 := by omega
    refine lJ_iload_n X dL_law_129 rfl ?_
    refine lJ_bipush X (v := 9) dL_law_130 rfl ?_
    refine lJ_icmp_ge X 240 dL_law_132 rfl (fun c_132 => ?_) (fun c_132 => False.elim (by exact c_132 (nI_le (a := 9) (Nat.le_refl _) (by omega))))
    refine lJ_iconst X (v := 0) dL_law_240 rfl ?_
    refine lJ_istore_n X dL_law_241 (Nat.le_of_ble_eq_true rfl) (ls2 := [_, _, _, _, _, _, _, _, _, _, _, _, _, _, _, _, _, _, _]) rfl ?_
    exact l_main X 26 0 x4 x5 x6 x7 x8 x9 x10 x11 x12 x13 x14 x15 x16 x17 x18 h d 0 n (by omega) S (LA_LI I)
  | succ q ih =>
    intro k x4 x5 x6 x7 x8 x9 x10 x11 x12 x13 x14 x15 x16 x17 x18 h d n hm S I
    have hk9 : k < 9 := by omega
    obtain ⟨y, hy, ey⟩ := cv_pos L xs (7 + k)
    obtain ⟨h1, S1, c1⟩ := E_hint (v := nI (y % 5)) (w := nI (1 + y / 16 % 90)) (t := nI (1 + y / 128 % 40)) (s := nI (y / 4 % 4)) (g := nI (y / 7 % 3)) S (by omega) ⟨y % 5, Nat.mod_lt _ (by omega), rfl⟩ (nI_rg (a := 1) (b := 200) (by omega) (by omega) (by omega)) (nI_rg (a := 1) (b := 200) (by omega) (by omega) (by omega)) (nI_rg (a := 0) (b := 3) (by omega) (by omega) (by omega)) (nI_rg (a := 0) (b := 2) (by omega) (by omega) (by omega))
    have S1 : ST h1 (nh d k (nI (y % 5)) (nI (1 + y / 16 % 90)) (nI (1 + y / 128 % 40)) (nI (y / 4 % 4)) (nI (y / 7 % 3))) 5 (k + 1) 0 0 (mN n) := S1
    obtain ⟨g5, g6, g0⟩ := nh_facts (d := d) (k := k) (v := nI (y % 5)) (w := nI (1 + y / 16 % 90)) (t := nI (1 + y / 128 % 40)) (s := nI (y / 4 % 4)) (g := nI (y / 7 % 3)) (by omega)
    generalize nh d k (nI (y % 5)) (nI (1 + y / 16 % 90)) (nI (1 + y / 128 % 40)) (nI (y / 4 % 4)) (nI (y / 7 % 3)) = d1 at S1 g5 g6 g0
    obtain ⟨h2, S2, c2⟩ := E_alter (j := k) (k := 5) (v := nI (y / 11 % 3)) S1 (by omega) (by omega) (by omega) (Or.inr (Or.inr (Or.inr (Or.inr (Or.inr (Or.inl ⟨rfl, nI_rg (a := 0) (b := 2) (by omega) (by omega) (by omega)⟩))))))
    have g6' : dH (upd d1 (51 + 12 * 5 + k) (nI (y / 11 % 3))) k 6 = 0 := (upd_ne (by omega)).trans g6
    obtain ⟨h3, S3, c3⟩ := E_alter (j := k) (k := 6) (v := nI (y / 13 % 2)) S2 (by omega) (by omega) (by omega) (Or.inr (Or.inr (Or.inr (Or.inr (Or.inr (Or.inr (Or.inl ⟨rfl, nI_rg (a := 0) (b := 1) (by omega) (by omega) (by omega)⟩)))))))
    have I3 : LA (upd (upd d1 (51 + 12 * 5 + k) (nI (y / 11 % 3))) (51 + 12 * 6 + k) (nI (y / 13 % 2))) 5 := LA_same (by omega) I (fun c hc => by rw [upd_ne (by omega), upd_ne (by omega)]; exact g0 c hc)
    have hk := ih (k + 1) (.int (nI y)) x5 x6 x7 x8 x9 x10 x11 x12 x13 x14 x15 x16 x17 x18 h3 _ _ (by omega) S3 I3
    refine lJ_iload_n X dL_law_129 rfl ?_
    refine lJ_bipush X (v := 9) dL_law_130 rfl ?_
    refine lJ_icmp_ge X 240 dL_law_132 rfl (fun c_132 => False.elim (by exact nI_ge (b := 9) hk9 (by omega) c_132)) (fun c_132 => ?_)
    refine lJ_iload_n X dL_law_135 rfl ?_
    refine lJ_if_eq X 240 dL_law_136 rfl (fun c => absurd c (by decide)) (fun _ => ?_)
    refine lJ_aload_n X dL_law_139 rfl ?_
    refine lJ_bipush X (v := 7) dL_law_140 rfl ?_
    refine lJ_iload_n X dL_law_142 rfl ?_
    refine lJ_iadd X dL_law_143 ?_
    refine lJ_cS2i X dL_law_144 e_L_cell n_L_36 ⟨Nat.le_of_ble_eq_true rfl, Nat.le_of_ble_eq_true rfl⟩ (Nat.le_of_ble_eq_true rfl) (⟨nI_add 7 k, by omega, ey⟩) ?_
    refine lJ_istore X dL_law_147 (Nat.le_of_ble_eq_true rfl) (ls2 := [_, _, _, _, _, _, _, _, _, _, _, _, _, _, _, _, _, _, _]) rfl ?_
    refine lJ_aload_n X dL_law_149 rfl ?_
    refine lJ_iload X dL_law_150 rfl ?_
    refine lJ_iconst X (v := 5) dL_law_152 rfl ?_
    refine lJ_irem X dL_law_153 (by decide) ?_
    refine lJ_top (pk_rem (d := 5) (by omega) (by decide) (by decide)) ?_
    refine lJ_iconst X (v := 1) dL_law_154 rfl ?_
    refine lJ_iload X dL_law_155 rfl ?_
    refine lJ_bipush X (v := 16) dL_law_157 rfl ?_
    refine lJ_idiv X dL_law_159 (by decide) ?_
    refine lJ_top (pk_div (d := 16) (by omega) (by decide) (by decide)) ?_
    refine lJ_bipush X (v := 90) dL_law_160 rfl ?_
    refine lJ_irem X dL_law_162 (by decide) ?_
    refine lJ_top (pk_rem (d := 90) (by omega) (by decide) (by decide)) ?_
    refine lJ_iadd X dL_law_163 ?_
    refine lJ_top (nI_add 1 _) ?_
    refine lJ_iconst X (v := 1) dL_law_164 rfl ?_
    refine lJ_iload X dL_law_165 rfl ?_
    refine lJ_sipush X (v := 128) dL_law_167 rfl ?_
    refine lJ_idiv X dL_law_170 (by decide) ?_
    refine lJ_top (pk_div (d := 128) (by omega) (by decide) (by decide)) ?_
    refine lJ_bipush X (v := 40) dL_law_171 rfl ?_
    refine lJ_irem X dL_law_173 (by decide) ?_
    refine lJ_top (pk_rem (d := 40) (by omega) (by decide) (by decide)) ?_
    refine lJ_iadd X dL_law_174 ?_
    refine lJ_top (nI_add 1 _) ?_
    refine lJ_iload X dL_law_175 rfl ?_
    refine lJ_iconst X (v := 4) dL_law_177 rfl ?_
    refine lJ_idiv X dL_law_178 (by decide) ?_
    refine lJ_top (pk_div (d := 4) (by omega) (by decide) (by decide)) ?_
    refine lJ_iconst X (v := 4) dL_law_179 rfl ?_
    refine lJ_irem X dL_law_180 (by decide) ?_
    refine lJ_top (pk_rem (d := 4) (by omega) (by decide) (by decide)) ?_
    refine lJ_iload X dL_law_181 rfl ?_
    refine lJ_bipush X (v := 7) dL_law_183 rfl ?_
    refine lJ_idiv X dL_law_185 (by decide) ?_
    refine lJ_top (pk_div (d := 7) (by omega) (by decide) (by decide)) ?_
    refine lJ_iconst X (v := 3) dL_law_186 rfl ?_
    refine lJ_irem X dL_law_187 (by decide) ?_
    refine lJ_top (pk_rem (d := 3) (by omega) (by decide) (by decide)) ?_
    refine lJ_cV5i X dL_law_188 e_X7_hint n_L_47 ⟨Nat.le_of_ble_eq_true rfl, Nat.le_of_ble_eq_true rfl⟩ rfl (Nat.le_of_ble_eq_true rfl) (c1) ?_
    refine lJ_iload_n X dL_law_191 rfl ?_
    refine lJ_icmp_ne X 232 dL_law_192 rfl (fun c_192 => False.elim (by exact c_192 rfl)) (fun c_192 => ?_)
    refine lJ_aload_n X dL_law_195 rfl ?_
    refine lJ_iload_n X dL_law_196 rfl ?_
    refine lJ_iconst X (v := 5) dL_law_197 rfl ?_
    refine lJ_iload X dL_law_198 rfl ?_
    refine lJ_bipush X (v := 11) dL_law_200 rfl ?_
    refine lJ_idiv X dL_law_202 (by decide) ?_
    refine lJ_top (pk_div (d := 11) (by omega) (by decide) (by decide)) ?_
    refine lJ_iconst X (v := 3) dL_law_203 rfl ?_
    refine lJ_irem X dL_law_204 (by decide) ?_
    refine lJ_top (pk_rem (d := 3) (by omega) (by decide) (by decide)) ?_
    refine lJ_cV3i X dL_law_205 e_X7_alter n_L_51 ⟨Nat.le_of_ble_eq_true rfl, Nat.le_of_ble_eq_true rfl⟩ rfl (Nat.le_of_ble_eq_true rfl) (lCt_val g5 c2) ?_
    refine lJ_if_ne X 232 dL_law_208 rfl (fun c => absurd c (by decide)) (fun _ => ?_)
    refine lJ_aload_n X dL_law_211 rfl ?_
    refine lJ_iload_n X dL_law_212 rfl ?_
    refine lJ_bipush X (v := 6) dL_law_213 rfl ?_
    refine lJ_iload X dL_law_215 rfl ?_
    refine lJ_bipush X (v := 13) dL_law_217 rfl ?_
    refine lJ_idiv X dL_law_219 (by decide) ?_
    refine lJ_top (pk_div (d := 13) (by omega) (by decide) (by decide)) ?_
    refine lJ_iconst X (v := 2) dL_law_220 rfl ?_
    refine lJ_irem X dL_law_221 (by decide) ?_
    refine lJ_top (pk_rem (d := 2) (by omega) (by decide) (by decide)) ?_
    refine lJ_cV3i X dL_law_222 e_X7_alter n_L_51 ⟨Nat.le_of_ble_eq_true rfl, Nat.le_of_ble_eq_true rfl⟩ rfl (Nat.le_of_ble_eq_true rfl) (lCt_val g6' c3) ?_
    refine lJ_if_ne X 232 dL_law_225 rfl (fun c => absurd c (by decide)) (fun _ => ?_)
    refine lJ_iconst X (v := 1) dL_law_228 rfl ?_
    refine lJ_goto X 233 dL_law_229 rfl ?_
    refine lJ_istore_n X dL_law_233 (Nat.le_of_ble_eq_true rfl) (ls2 := [_, _, _, _, _, _, _, _, _, _, _, _, _, _, _, _, _, _, _]) rfl ?_
    refine lJ_iinc X dL_law_234 rfl (Nat.le_of_ble_eq_true rfl) (v := nI (k + 1)) (nI_1 k) (ls2 := [_, _, _, _, _, _, _, _, _, _, _, _, _, _, _, _, _, _, _]) rfl ?_
    refine lJ_goto X 129 dL_law_237 rfl ?_
    exact hk
set_option maxHeartbeats 4000000 in
set_option maxRecDepth 100000 in
theorem l_anchors {p : Program} {l : Launch} {e : Env} {s : State} {m : MethodId} {below : List Frame} {meth : Method} {c : Code} {b L : Nat} {xs : Nat → Int32} {D : va_G} {g : Nat → ClassId} {ad : Nat → Nat} (X : lX p s m meth c b L xs D g ad) : ∀ (q k : Nat) (x4 x5 x6 x7 x8 x9 x10 x11 x12 x13 x14 x15 x16 x17 x18 : Value) (h : List mC) (d : aF) (n : Nat), k + q = 5 → ST h d k 0 0 0 n → LA d k → lJ p l e s m below meth c b D g ad 54 [.ref 29, .ref 0, .int 1, .int (nI k), x4, x5, x6, x7, x8, x9, x10, x11, x12, x13, x14, x15, x16, x17, x18] [] h := by
  intro q
  induction q with
  | zero =>
    intro k x4 x5 x6 x7 x8 x9 x10 x11 x12 x13 x14 x15 x16 x17 x18 h d n hm S I
    obtain rfl : k = 5 := by omega
    refine lJ_iload_n X dL_law_54 rfl ?_
    refine lJ_iconst X (v := 5) dL_law_55 rfl ?_
    refine lJ_icmp_ge X 127 dL_law_56 rfl (fun c_56 => ?_) (fun c_56 => False.elim (by exact c_56 (nI_le (a := 5) (Nat.le_refl _) (by omega))))
    refine lJ_iconst X (v := 0) dL_law_127 rfl ?_
    refine lJ_istore_n X dL_law_128 (Nat.le_of_ble_eq_true rfl) (ls2 := [_, _, _, _, _, _, _, _, _, _, _, _, _, _, _, _, _, _, _]) rfl ?_
    exact l_hints X 9 0 x4 x5 x6 x7 x8 x9 x10 x11 x12 x13 x14 x15 x16 x17 x18 h d n (by omega) S I
  | succ q ih =>
    intro k x4 x5 x6 x7 x8 x9 x10 x11 x12 x13 x14 x15 x16 x17 x18 h d n hm S I
    have hk5 : k < 5 := by omega
    obtain ⟨y, hy, ey⟩ := cv_pos L xs (2 + k)
    obtain ⟨h1, S1, c1⟩ := E_anchor (x := nI (y % 180)) (y := nI (y / 256 % 120)) (w := nI (1 + y / 8 % 40)) (t := nI (1 + y / 64 % 20)) S (by omega) (nI_rgn (by omega)) (nI_rgn (by omega)) (nI_rg (a := 1) (b := 200) (by omega) (by omega) (by omega)) (nI_rg (a := 1) (b := 200) (by omega) (by omega) (by omega))
    have I1 := LA_s (w := nI (1 + y / 8 % 40)) (t := nI (1 + y / 64 % 20)) (v := nI (k + 1)) (show k < 10 by omega) I (iR_nI0 (y := y % 180) (n := 179) (by omega) rfl (by omega)) (iR_nI0 (y := y / 256 % 120) (n := 119) (by omega) rfl (by omega))
    have hk := ih (k + 1) (.int (nI y)) x5 x6 x7 x8 x9 x10 x11 x12 x13 x14 x15 x16 x17 x18 h1 _ _ (by omega) S1 I1
    refine lJ_iload_n X dL_law_54 rfl ?_
    refine lJ_iconst X (v := 5) dL_law_55 rfl ?_
    refine lJ_icmp_ge X 127 dL_law_56 rfl (fun c_56 => False.elim (by exact nI_ge (b := 5) hk5 (by omega) c_56)) (fun c_56 => ?_)
    refine lJ_iload_n X dL_law_59 rfl ?_
    refine lJ_if_eq X 127 dL_law_60 rfl (fun c => absurd c (by decide)) (fun _ => ?_)
    refine lJ_aload_n X dL_law_63 rfl ?_
    refine lJ_iconst X (v := 2) dL_law_64 rfl ?_
    refine lJ_iload_n X dL_law_65 rfl ?_
    refine lJ_iadd X dL_law_66 ?_
    refine lJ_cS2i X dL_law_67 e_L_cell n_L_36 ⟨Nat.le_of_ble_eq_true rfl, Nat.le_of_ble_eq_true rfl⟩ (Nat.le_of_ble_eq_true rfl) (⟨nI_add 2 k, by omega, ey⟩) ?_
    refine lJ_istore X dL_law_70 (Nat.le_of_ble_eq_true rfl) (ls2 := [_, _, _, _, _, _, _, _, _, _, _, _, _, _, _, _, _, _, _]) rfl ?_
    refine lJ_aload_n X dL_law_72 rfl ?_
    refine lJ_iload X dL_law_73 rfl ?_
    refine lJ_sipush X (v := 180) dL_law_75 rfl ?_
    refine lJ_irem X dL_law_78 (by decide) ?_
    refine lJ_top (pk_rem (d := 180) (by omega) (by decide) (by decide)) ?_
    refine lJ_iload X dL_law_79 rfl ?_
    refine lJ_sipush X (v := 256) dL_law_81 rfl ?_
    refine lJ_idiv X dL_law_84 (by decide) ?_
    refine lJ_top (pk_div (d := 256) (by omega) (by decide) (by decide)) ?_
    refine lJ_bipush X (v := 120) dL_law_85 rfl ?_
    refine lJ_irem X dL_law_87 (by decide) ?_
    refine lJ_top (pk_rem (d := 120) (by omega) (by decide) (by decide)) ?_
    refine lJ_iconst X (v := 1) dL_law_88 rfl ?_
    refine lJ_iload X dL_law_89 rfl ?_
    refine lJ_bipush X (v := 8) dL_law_91 rfl ?_
    refine lJ_idiv X dL_law_93 (by decide) ?_
    refine lJ_top (pk_div (d := 8) (by omega) (by decide) (by decide)) ?_
    refine lJ_bipush X (v := 40) dL_law_94 rfl ?_
    refine lJ_irem X dL_law_96 (by decide) ?_
    refine lJ_top (pk_rem (d := 40) (by omega) (by decide) (by decide)) ?_
    refine lJ_iadd X dL_law_97 ?_
    refine lJ_top (nI_add 1 _) ?_
    refine lJ_iconst X (v := 1) dL_law_98 rfl ?_
    refine lJ_iload X dL_law_99 rfl ?_
    refine lJ_bipush X (v := 64) dL_law_101 rfl ?_
    refine lJ_idiv X dL_law_103 (by decide) ?_
    refine lJ_top (pk_div (d := 64) (by omega) (by decide) (by decide)) ?_
    refine lJ_bipush X (v := 20) dL_law_104 rfl ?_
    refine lJ_irem X dL_law_106 (by decide) ?_
    refine lJ_top (pk_rem (d := 20) (by omega) (by decide) (by decide)) ?_
    refine lJ_iadd X dL_law_107 ?_
    refine lJ_top (nI_add 1 _) ?_
    refine lJ_cV4i X dL_law_108 e_X7_anchor n_L_43 ⟨Nat.le_of_ble_eq_true rfl, Nat.le_of_ble_eq_true rfl⟩ rfl (Nat.le_of_ble_eq_true rfl) (c1) ?_
    refine lJ_iload_n X dL_law_111 rfl ?_
    refine lJ_icmp_ne X 119 dL_law_112 rfl (fun c_112 => False.elim (by exact c_112 rfl)) (fun c_112 => ?_)
    refine lJ_iconst X (v := 1) dL_law_115 rfl ?_
    refine lJ_goto X 120 dL_law_116 rfl ?_
    refine lJ_istore_n X dL_law_120 (Nat.le_of_ble_eq_true rfl) (ls2 := [_, _, _, _, _, _, _, _, _, _, _, _, _, _, _, _, _, _, _]) rfl ?_
    refine lJ_iinc X dL_law_121 rfl (Nat.le_of_ble_eq_true rfl) (v := nI (k + 1)) (nI_1 k) (ls2 := [_, _, _, _, _, _, _, _, _, _, _, _, _, _, _, _, _, _, _]) rfl ?_
    refine lJ_goto X 54 dL_law_124 rfl ?_
    exact hk
set_option maxHeartbeats 4000000 in
set_option maxRecDepth 100000 in
theorem l_start {p : Program} {l : Launch} {e : Env} {s : State} {m : MethodId} {below : List Frame} {meth : Method} {c : Code} {b L : Nat} {xs : Nat → Int32} {D : va_G} {g : Nat → ClassId} {ad : Nat → Nat} (X : lX p s m meth c b L xs D g ad) {h : List mC} (S : ST h d0 0 0 0 0 0) : lJ p l e s m below meth c b D g ad 8 [.ref 29, .ref 0, .null, .null, .null, .null, .null, .null, .null, .null, .null, .null, .null, .null, .null, .null, .null, .null, .null] [] h := by
  obtain ⟨h2, S2, hl2, c2⟩ := E_holds S
  obtain ⟨y0, hy0, ey0⟩ := cv_pos L xs 0
  obtain ⟨y1, hy1, ey1⟩ := cv_pos L xs 1
  obtain ⟨h3, S3, c3⟩ := E_view (w := nI (100 + y0 % 200)) (t := nI (60 + y1 % 150)) S2 (nI_rg (a := 20) (b := 400) (by omega) (by omega) (by omega)) (nI_rg (a := 20) (b := 400) (by omega) (by omega) (by omega))
  obtain ⟨hw, hR, hI⟩ := ST_w S3
  obtain ⟨-, -, -, -, cc, q, f1, f2, f3, f4, f5, f6, f7⟩ := p_facts hw hI hR
  have e0 : (p_all (upd (upd d0 2 (nI (100 + y0 % 200))) 3 (nI (60 + y1 % 150))) 0 0 0).2.2 = 0 := by
    rw [f1, show cc = 0 by omega]
    rfl
  have I3 : LA (upd (upd d0 2 (nI (100 + y0 % 200))) 3 (nI (60 + y1 % 150))) 0 := ⟨by rw [upd_ne (by omega), upd_ne (by omega)]; rfl, by rw [upd_ne (by omega), upd_ne (by omega)]; rfl, by rw [upd_ne (by omega), upd_ne (by omega)]; rfl, fun a ha => absurd ha (by omega)⟩
  refine lJ_aload_n X dL_law_8 rfl ?_
  refine lJ_cS1i X dL_law_9 e_L_holds n_L_30 ⟨Nat.le_of_ble_eq_true rfl, Nat.le_of_ble_eq_true rfl⟩ (Nat.le_of_ble_eq_true rfl) (⟨hl2, c2⟩) ?_
  refine lJ_if_eq X 50 dL_law_12 rfl (fun c => absurd c (by decide)) (fun _ => ?_)
  refine lJ_aload_n X dL_law_15 rfl ?_
  refine lJ_bipush X (v := 100) dL_law_16 rfl ?_
  refine lJ_aload_n X dL_law_18 rfl ?_
  refine lJ_iconst X (v := 0) dL_law_19 rfl ?_
  refine lJ_cS2i X dL_law_20 e_L_cell n_L_36 ⟨Nat.le_of_ble_eq_true rfl, Nat.le_of_ble_eq_true rfl⟩ (Nat.le_of_ble_eq_true rfl) (⟨rfl, by decide, ey0⟩) ?_
  refine lJ_sipush X (v := 200) dL_law_23 rfl ?_
  refine lJ_irem X dL_law_26 (by decide) ?_
  refine lJ_top (pk_rem (d := 200) (by omega) (by decide) (by decide)) ?_
  refine lJ_iadd X dL_law_27 ?_
  refine lJ_top (nI_add 100 _) ?_
  refine lJ_bipush X (v := 60) dL_law_28 rfl ?_
  refine lJ_aload_n X dL_law_30 rfl ?_
  refine lJ_iconst X (v := 1) dL_law_31 rfl ?_
  refine lJ_cS2i X dL_law_32 e_L_cell n_L_36 ⟨Nat.le_of_ble_eq_true rfl, Nat.le_of_ble_eq_true rfl⟩ (Nat.le_of_ble_eq_true rfl) (⟨rfl, by decide, ey1⟩) ?_
  refine lJ_sipush X (v := 150) dL_law_35 rfl ?_
  refine lJ_irem X dL_law_38 (by decide) ?_
  refine lJ_top (pk_rem (d := 150) (by omega) (by decide) (by decide)) ?_
  refine lJ_iadd X dL_law_39 ?_
  refine lJ_top (nI_add 60 _) ?_
  refine lJ_cV2i X dL_law_40 e_X7_view n_L_40 ⟨Nat.le_of_ble_eq_true rfl, Nat.le_of_ble_eq_true rfl⟩ rfl (Nat.le_of_ble_eq_true rfl) (lCt_val e0 c3) ?_
  refine lJ_if_ne X 50 dL_law_43 rfl (fun c => absurd c (by decide)) (fun _ => ?_)
  refine lJ_iconst X (v := 1) dL_law_46 rfl ?_
  refine lJ_goto X 51 dL_law_47 rfl ?_
  refine lJ_istore_n X dL_law_51 (Nat.le_of_ble_eq_true rfl) (ls2 := [_, _, _, _, _, _, _, _, _, _, _, _, _, _, _, _, _, _, _]) rfl ?_
  refine lJ_iconst X (v := 0) dL_law_52 rfl ?_
  refine lJ_istore_n X dL_law_53 (Nat.le_of_ble_eq_true rfl) (ls2 := [_, _, _, _, _, _, _, _, _, _, _, _, _, _, _, _, _, _, _]) rfl ?_
  exact l_anchors X 5 0 .null .null .null .null .null .null .null .null .null .null .null .null .null .null .null h3 _ _ (by omega) S3 I3
