/-! THE CLASS: which hints are shown, over the row d that the class's row C stands for -/
noncomputable def cN (P : Nat → Prop) : Nat → Nat
  | 0 => 0
  | k + 1 => iif (P k) (cN P k + 1) (cN P k)
theorem cN_le (P : Nat → Prop) : ∀ k, cN P k ≤ k
  | 0 => Nat.le_refl _
  | k + 1 => by
    unfold cN
    have := cN_le P k
    by_cases q : P k
    · rw [iif_t q]; omega
    · rw [iif_f q]; omega
theorem cN_congr {P Q : Nat → Prop} : ∀ {n : Nat}, (∀ k, k < n → (P k ↔ Q k)) → cN P n = cN Q n
  | 0, _ => rfl
  | n + 1, h => by
    show iif (P n) _ _ = iif (Q n) _ _
    rw [cN_congr (fun k hk => h k (by omega)), propext (h n (by omega))]
theorem cP_nI (P : Nat → Prop) : ∀ n, cP P n = nI (cN P n)
  | 0 => rfl
  | n + 1 => by
    unfold cP cN
    by_cases q : P n
    · rw [iif_t q, iif_t q, cP_nI P n, nI_1]
    · rw [iif_f q, iif_f q, cP_nI P n]
noncomputable def fT (P : Nat → Prop) : Nat → Nat → Int32
  | 0, _ => -1
  | m + 1, k => iif (P k) (nI k) (fT P m (k + 1))
theorem fT_neg {P : Nat → Prop} : ∀ {m k : Nat}, k + m < 1000 → (fT P m k < 0 ↔ ¬ ∃ o, k ≤ o ∧ o < k + m ∧ P o)
  | 0, k, _ => ⟨fun _ ⟨o, h1, h2, _⟩ => by omega, fun _ => by show (-1 : Int32) < 0; decide⟩
  | m + 1, k, hk => by
    unfold fT
    by_cases q : P k
    · rw [iif_t q]
      exact ⟨fun z => absurd z (nI_pos (by omega)), fun z => absurd ⟨k, Nat.le_refl _, by omega, q⟩ z⟩
    · rw [iif_f q, fT_neg (m := m) (k := k + 1) (by omega)]
      constructor
      · rintro z ⟨o, h1, h2, h3⟩
        refine z ⟨o, ?_, by omega, h3⟩
        rcases Nat.lt_or_ge k o with e | e
        · exact e
        · exact absurd h3 (by rw [show o = k by omega]; exact q)
      · rintro z ⟨o, h1, h2, h3⟩
        exact z ⟨o, by omega, by omega, h3⟩
/-- a shown hint of the class that has a point in common with a rectangle -/
def mP (C RS XS YS : aF) (x y w t : Int32) (o : Nat) : Prop := RS o = 0 ∧ q_sm (XS o) (gH C (nI o) 1) x w ∧ q_sm (YS o) (gH C (nI o) 2) y t
set_option maxHeartbeats 4000000 in
set_option maxRecDepth 100000 in
theorem L_X5_turn {C : aF} {Hs : tH} {Sw : tS} {T1 : tT} {P1 : tP} {Od : tO} {T2 : tT} {P2 : tP} {nH : Nat} (h5 : gG C 5 = nI nH) (hl : nH ≤ 12) {v : Int32} : ∀ (m k : Nat), k + m = nH → mJ k_X5_turn 4 [.ref 1, .int v, .int (nI (cN (fun o => q_open C (nI o) ∧ q_gb C (nI o) v) k)), .int (nI k)] [] (cH C Hs Sw T1 P1 Od T2 P2) (some (.int (nI (cN (fun o => q_open C (nI o) ∧ q_gb C (nI o) v) nH)))) (cH C Hs Sw T1 P1 Od T2 P2) := by
  intro m
  induction m with
  | zero =>
    intro k hk
    refine mJ_iload_n dX5_turn_4 rfl ?_
    refine mJ_aload_n dX5_turn_5 rfl ?_
    refine mJ_iconst (v := 5) dX5_turn_6 rfl ?_
    refine mJ_cV1i dX5_turn_7 e_X5_get n_X5_32 ⟨Nat.le_of_ble_eq_true rfl, Nat.le_of_ble_eq_true rfl⟩ rfl rfl (Nat.le_of_ble_eq_true rfl) (C_X5_get) ?_
    refine mJ_icmp_ge 39 dX5_turn_10 rfl (fun c_10 => ?_) (fun c_10 => False.elim (by exact c_10 (by rw [h5, show k = nH by omega]; exact Int32.le_refl _)))
    refine mJ_iload_n dX5_turn_39 rfl ?_
    exact mJ_iret dX5_turn_40 rfl (by rw [show k = nH by omega]) (rfl)
  | succ m ih =>
    intro k hk
    refine mJ_iload_n dX5_turn_4 rfl ?_
    refine mJ_aload_n dX5_turn_5 rfl ?_
    refine mJ_iconst (v := 5) dX5_turn_6 rfl ?_
    refine mJ_cV1i dX5_turn_7 e_X5_get n_X5_32 ⟨Nat.le_of_ble_eq_true rfl, Nat.le_of_ble_eq_true rfl⟩ rfl rfl (Nat.le_of_ble_eq_true rfl) (C_X5_get) ?_
    refine mJ_icmp_ge 39 dX5_turn_10 rfl (fun c_10 => False.elim (by rw [h5] at c_10; exact nI_ge (show k < nH by omega) (by omega) c_10)) (fun c_10 => ?_)
    refine mJ_aload_n dX5_turn_13 rfl ?_
    refine mJ_iload_n dX5_turn_14 rfl ?_
    refine mJ_cV1i dX5_turn_15 e_X5_isOpen n_X5_44 ⟨Nat.le_of_ble_eq_true rfl, Nat.le_of_ble_eq_true rfl⟩ rfl rfl (Nat.le_of_ble_eq_true rfl) (C_X5_isOpen) ?_
    refine mJ_b2i (fun b_15 => ?_) (fun b_15 => ?_)
    · refine mJ_if_eq 33 dX5_turn_18 rfl (fun c => absurd c (by decide)) (fun _ => ?_)
      refine mJ_aload_n dX5_turn_21 rfl ?_
      refine mJ_iload_n dX5_turn_22 rfl ?_
      refine mJ_iload_n dX5_turn_23 rfl ?_
      refine mJ_cV2i dX5_turn_24 e_X5_goesBefore n_X5_48 ⟨Nat.le_of_ble_eq_true rfl, Nat.le_of_ble_eq_true rfl⟩ rfl rfl (Nat.le_of_ble_eq_true rfl) (C_X5_goesBefore) ?_
      refine mJ_b2i (fun b_24 => ?_) (fun b_24 => ?_)
      · refine mJ_if_eq 33 dX5_turn_27 rfl (fun c => absurd c (by decide)) (fun _ => ?_)
        refine mJ_iinc dX5_turn_30 rfl (Nat.le_of_ble_eq_true rfl) (v := nI (cN (fun o => q_open C (nI o) ∧ q_gb C (nI o) v) k + 1)) (nI_1 _) (ls2 := [_, _, _, _]) rfl ?_
        refine mJ_iinc dX5_turn_33 rfl (Nat.le_of_ble_eq_true rfl) (v := nI (k + 1)) (nI_1 k) (ls2 := [_, _, _, _]) rfl ?_
        refine mJ_goto 4 dX5_turn_36 rfl ?_
        rw [show cN (fun o => q_open C (nI o) ∧ q_gb C (nI o) v) k + 1 = cN (fun o => q_open C (nI o) ∧ q_gb C (nI o) v) (k + 1) from (iif_t ⟨b_15, b_24⟩).symm]
        exact ih (k + 1) (by omega)
      · refine mJ_if_eq 33 dX5_turn_27 rfl (fun _ => ?_) (fun c => absurd c (by decide))
        refine mJ_iinc dX5_turn_33 rfl (Nat.le_of_ble_eq_true rfl) (v := nI (k + 1)) (nI_1 k) (ls2 := [_, _, _, _]) rfl ?_
        refine mJ_goto 4 dX5_turn_36 rfl ?_
        rw [show cN (fun o => q_open C (nI o) ∧ q_gb C (nI o) v) k = cN (fun o => q_open C (nI o) ∧ q_gb C (nI o) v) (k + 1) from (iif_f (fun z => b_24 z.2)).symm]
        exact ih (k + 1) (by omega)
    · refine mJ_if_eq 33 dX5_turn_18 rfl (fun _ => ?_) (fun c => absurd c (by decide))
      refine mJ_iinc dX5_turn_33 rfl (Nat.le_of_ble_eq_true rfl) (v := nI (k + 1)) (nI_1 k) (ls2 := [_, _, _, _]) rfl ?_
      refine mJ_goto 4 dX5_turn_36 rfl ?_
      rw [show cN (fun o => q_open C (nI o) ∧ q_gb C (nI o) v) k = cN (fun o => q_open C (nI o) ∧ q_gb C (nI o) v) (k + 1) from (iif_f (fun z => b_15 z.1)).symm]
      exact ih (k + 1) (by omega)
set_option maxHeartbeats 4000000 in
set_option maxRecDepth 100000 in
theorem C_X5_turn {C : aF} {Hs : tH} {Sw : tS} {T1 : tT} {P1 : tP} {Od : tO} {T2 : tT} {P2 : tP} {nH : Nat} (h5 : gG C 5 = nI nH) (hl : nH ≤ 12) {v : Int32} : mCt k_X5_turn [.ref 1, .int v] (cH C Hs Sw T1 P1 Od T2 P2) (some (.int (nI (cN (fun o => q_open C (nI o) ∧ q_gb C (nI o) v) nH)))) (cH C Hs Sw T1 P1 Od T2 P2) := by
  refine mCt_intro (plainFor_of_name rfl) (Nat.le_of_ble_eq_true rfl) (m_all rfl) (ls := [_, _, _, _]) rfl ?_
  refine mJ_iconst (v := 0) dX5_turn_0 rfl ?_
  refine mJ_istore_n dX5_turn_1 (Nat.le_of_ble_eq_true rfl) (ls2 := [_, _, _, _]) rfl ?_
  refine mJ_iconst (v := 0) dX5_turn_2 rfl ?_
  refine mJ_istore_n dX5_turn_3 (Nat.le_of_ble_eq_true rfl) (ls2 := [_, _, _, _]) rfl ?_
  exact L_X5_turn h5 hl nH 0 (by omega)
set_option maxHeartbeats 4000000 in
set_option maxRecDepth 100000 in
theorem L_X4_shownThatMeets {C : aF} {Hs : tH} {T1 : tT} {P1 : tP} {Od : tO} {T2 : tT} {P2 : tP} {RS SD XS YS OR : aF} {shn : Int32} {nH : Nat} (h5 : gG C 5 = nI nH) (hl : nH ≤ 12) {x y w t : Int32} : ∀ (m k : Nat), k + m = nH → mJ k_X4_shownThatMeets 3 [.ref 7, .ref 1, .int x, .int y, .int w, .int t, .int (nI k)] [] (cH C Hs (RS, SD, XS, YS, OR, shn) T1 P1 Od T2 P2) (some (.int (fT (mP C RS XS YS x y w t) m k))) (cH C Hs (RS, SD, XS, YS, OR, shn) T1 P1 Od T2 P2) := by
  intro m
  induction m with
  | zero =>
    intro k hk
    refine mJ_iload dX4_shownThatMeets_3 rfl ?_
    refine mJ_aload_n dX4_shownThatMeets_5 rfl ?_
    refine mJ_iconst (v := 5) dX4_shownThatMeets_6 rfl ?_
    refine mJ_cV1i dX4_shownThatMeets_7 e_X5_get n_X4_66 ⟨Nat.le_of_ble_eq_true rfl, Nat.le_of_ble_eq_true rfl⟩ rfl rfl (Nat.le_of_ble_eq_true rfl) (C_X5_get) ?_
    refine mJ_icmp_ge 84 dX4_shownThatMeets_10 rfl (fun c_10 => ?_) (fun c_10 => False.elim (by exact c_10 (by rw [h5, show k = nH by omega]; exact Int32.le_refl _)))
    refine mJ_iconst (v := (-1)) dX4_shownThatMeets_84 rfl ?_
    exact mJ_iret dX4_shownThatMeets_85 rfl (rfl) (rfl)
  | succ m ih =>
    intro k hk
    refine mJ_iload dX4_shownThatMeets_3 rfl ?_
    refine mJ_aload_n dX4_shownThatMeets_5 rfl ?_
    refine mJ_iconst (v := 5) dX4_shownThatMeets_6 rfl ?_
    refine mJ_cV1i dX4_shownThatMeets_7 e_X5_get n_X4_66 ⟨Nat.le_of_ble_eq_true rfl, Nat.le_of_ble_eq_true rfl⟩ rfl rfl (Nat.le_of_ble_eq_true rfl) (C_X5_get) ?_
    refine mJ_icmp_ge 84 dX4_shownThatMeets_10 rfl (fun c_10 => False.elim (by rw [h5] at c_10; exact nI_ge (show k < nH by omega) (by omega) c_10)) (fun c_10 => ?_)
    refine mJ_aload_n dX4_shownThatMeets_13 rfl ?_
    refine mJ_get dX4_shownThatMeets_14 f_X4_14 rfl rfl ?_
    refine mJ_iload dX4_shownThatMeets_17 rfl ?_
    refine mJ_cV1i dX4_shownThatMeets_19 e_X3_get n_X4_54 ⟨Nat.le_of_ble_eq_true rfl, Nat.le_of_ble_eq_true rfl⟩ rfl rfl (Nat.le_of_ble_eq_true rfl) (C_X3_get rfl rfl (Nat.le_of_ble_eq_true rfl)) ?_
    refine mJ_top (rg_in RS (show k < 12 by omega) (by omega)) ?_
    refine mJ_if_ne 78 dX4_shownThatMeets_22 rfl (fun c_22 => ?_) (fun c_22 => ?_)
    · refine mJ_iinc dX4_shownThatMeets_78 rfl (Nat.le_of_ble_eq_true rfl) (v := nI (k + 1)) (nI_1 k) (ls2 := [_, _, _, _, _, _, _]) rfl ?_
      refine mJ_goto 3 dX4_shownThatMeets_81 rfl ?_
      rw [show fT (mP C RS XS YS x y w t) (m + 1) k = fT (mP C RS XS YS x y w t) m (k + 1) from iif_f (fun z => c_22 z.1)]
      exact ih (k + 1) (by omega)
    · refine mJ_aload_n dX4_shownThatMeets_25 rfl ?_
      refine mJ_get dX4_shownThatMeets_26 f_X4_23 rfl rfl ?_
      refine mJ_iload dX4_shownThatMeets_29 rfl ?_
      refine mJ_cV1i dX4_shownThatMeets_31 e_X3_get n_X4_54 ⟨Nat.le_of_ble_eq_true rfl, Nat.le_of_ble_eq_true rfl⟩ rfl rfl (Nat.le_of_ble_eq_true rfl) (C_X3_get rfl rfl (Nat.le_of_ble_eq_true rfl)) ?_
      refine mJ_top (rg_in XS (show k < 12 by omega) (by omega)) ?_
      refine mJ_aload_n dX4_shownThatMeets_34 rfl ?_
      refine mJ_iload dX4_shownThatMeets_35 rfl ?_
      refine mJ_iconst (v := 1) dX4_shownThatMeets_37 rfl ?_
      refine mJ_cV2i dX4_shownThatMeets_38 e_X5_hintValue n_X4_76 ⟨Nat.le_of_ble_eq_true rfl, Nat.le_of_ble_eq_true rfl⟩ rfl rfl (Nat.le_of_ble_eq_true rfl) (C_X5_hintValue) ?_
      refine mJ_iload_n dX4_shownThatMeets_41 rfl ?_
      refine mJ_iload dX4_shownThatMeets_42 rfl ?_
      refine mJ_cS4i dX4_shownThatMeets_44 e_X7_spansMeet n_X4_120 ⟨Nat.le_of_ble_eq_true rfl, Nat.le_of_ble_eq_true rfl⟩ (Nat.le_of_ble_eq_true rfl) (C_X7_spansMeet) ?_
      refine mJ_b2i (fun b_44 => ?_) (fun b_44 => ?_)
      · refine mJ_if_eq 78 dX4_shownThatMeets_47 rfl (fun c => absurd c (by decide)) (fun _ => ?_)
        refine mJ_aload_n dX4_shownThatMeets_50 rfl ?_
        refine mJ_get dX4_shownThatMeets_51 f_X4_26 rfl rfl ?_
        refine mJ_iload dX4_shownThatMeets_54 rfl ?_
        refine mJ_cV1i dX4_shownThatMeets_56 e_X3_get n_X4_54 ⟨Nat.le_of_ble_eq_true rfl, Nat.le_of_ble_eq_true rfl⟩ rfl rfl (Nat.le_of_ble_eq_true rfl) (C_X3_get rfl rfl (Nat.le_of_ble_eq_true rfl)) ?_
        refine mJ_top (rg_in YS (show k < 12 by omega) (by omega)) ?_
        refine mJ_aload_n dX4_shownThatMeets_59 rfl ?_
        refine mJ_iload dX4_shownThatMeets_60 rfl ?_
        refine mJ_iconst (v := 2) dX4_shownThatMeets_62 rfl ?_
        refine mJ_cV2i dX4_shownThatMeets_63 e_X5_hintValue n_X4_76 ⟨Nat.le_of_ble_eq_true rfl, Nat.le_of_ble_eq_true rfl⟩ rfl rfl (Nat.le_of_ble_eq_true rfl) (C_X5_hintValue) ?_
        refine mJ_iload_n dX4_shownThatMeets_66 rfl ?_
        refine mJ_iload dX4_shownThatMeets_67 rfl ?_
        refine mJ_cS4i dX4_shownThatMeets_69 e_X7_spansMeet n_X4_120 ⟨Nat.le_of_ble_eq_true rfl, Nat.le_of_ble_eq_true rfl⟩ (Nat.le_of_ble_eq_true rfl) (C_X7_spansMeet) ?_
        refine mJ_b2i (fun b_69 => ?_) (fun b_69 => ?_)
        · refine mJ_if_eq 78 dX4_shownThatMeets_72 rfl (fun c => absurd c (by decide)) (fun _ => ?_)
          refine mJ_iload dX4_shownThatMeets_75 rfl ?_
          exact mJ_iret dX4_shownThatMeets_77 rfl (by rw [show fT (mP C RS XS YS x y w t) (m + 1) k = nI k from iif_t ⟨c_22, b_44, b_69⟩]) (rfl)
        · refine mJ_if_eq 78 dX4_shownThatMeets_72 rfl (fun _ => ?_) (fun c => absurd c (by decide))
          refine mJ_iinc dX4_shownThatMeets_78 rfl (Nat.le_of_ble_eq_true rfl) (v := nI (k + 1)) (nI_1 k) (ls2 := [_, _, _, _, _, _, _]) rfl ?_
          refine mJ_goto 3 dX4_shownThatMeets_81 rfl ?_
          rw [show fT (mP C RS XS YS x y w t) (m + 1) k = fT (mP C RS XS YS x y w t) m (k + 1) from iif_f (fun z => b_69 z.2.2)]
          exact ih (k + 1) (by omega)
      · refine mJ_if_eq 78 dX4_shownThatMeets_47 rfl (fun _ => ?_) (fun c => absurd c (by decide))
        refine mJ_iinc dX4_shownThatMeets_78 rfl (Nat.le_of_ble_eq_true rfl) (v := nI (k + 1)) (nI_1 k) (ls2 := [_, _, _, _, _, _, _]) rfl ?_
        refine mJ_goto 3 dX4_shownThatMeets_81 rfl ?_
        rw [show fT (mP C RS XS YS x y w t) (m + 1) k = fT (mP C RS XS YS x y w t) m (k + 1) from iif_f (fun z => b_44 z.2.1)]
        exact ih (k + 1) (by omega)
set_option maxHeartbeats 4000000 in
set_option maxRecDepth 100000 in
theorem C_X4_shownThatMeets {C : aF} {Hs : tH} {T1 : tT} {P1 : tP} {Od : tO} {T2 : tT} {P2 : tP} {RS SD XS YS OR : aF} {shn : Int32} {nH : Nat} (h5 : gG C 5 = nI nH) (hl : nH ≤ 12) {x y w t : Int32} : mCt k_X4_shownThatMeets [.ref 7, .ref 1, .int x, .int y, .int w, .int t] (cH C Hs (RS, SD, XS, YS, OR, shn) T1 P1 Od T2 P2) (some (.int (fT (mP C RS XS YS x y w t) nH 0))) (cH C Hs (RS, SD, XS, YS, OR, shn) T1 P1 Od T2 P2) := by
  refine mCt_intro (plainFor_of_name rfl) (Nat.le_of_ble_eq_true rfl) (m_all rfl) (ls := [_, _, _, _, _, _, _]) rfl ?_
  refine mJ_iconst (v := 0) dX4_shownThatMeets_0 rfl ?_
  refine mJ_istore dX4_shownThatMeets_1 (Nat.le_of_ble_eq_true rfl) (ls2 := [_, _, _, _, _, _, _]) rfl ?_
  exact L_X4_shownThatMeets h5 hl nH 0 (by omega)
theorem ex_s {P : Nat → Prop} {k : Nat} : (∃ a, a < k + 1 ∧ P a) ↔ ((∃ a, a < k ∧ P a) ∨ P k) := by
  constructor
  · rintro ⟨a, ha, h⟩
    by_cases e : a = k
    · subst e; exact Or.inr h
    · exact Or.inl ⟨a, by omega, h⟩
  · rintro (⟨a, ha, h⟩ | h)
    · exact ⟨a, by omega, h⟩
    · exact ⟨k, by omega, h⟩
set_option maxHeartbeats 4000000 in
set_option maxRecDepth 100000 in
theorem L_X4_isFree {C : aF} {Hs : tH} {T1 : tT} {Od : tO} {T2 : tT} {P2 : tP} {RS SD XS YS OR : aF} {shn : Int32} {px py p3 p4 p5 p6 : Int32} {nH : Nat} (h5 : gG C 5 = nI nH) (hl : nH ≤ 12) {nA : Nat} (h4 : gG C 4 = nI nA) (hl4 : nA ≤ 10) {v : Int32} (hno : ¬ ∃ o, o < nH ∧ mP C RS XS YS px py (gH C v 1) (gH C v 2) o) (hs4 : ¬ gS C 4 = 0) : ∀ (m k : Nat), k + m = nA → ¬ (∃ a, a < k ∧ q_am C (nI a) px py (gH C v 1) (gH C v 2)) → mJ k_X4_isFree 55 [.ref 7, .ref 1, .int v, .int (gH C v 1), .int (gH C v 2), .int (nI k)] [] (cH C Hs (RS, SD, XS, YS, OR, shn) T1 (px, py, p3, p4, p5, p6) Od T2 P2) (some (.int (b2i (¬ (∃ o, o < nH ∧ mP C RS XS YS px py (gH C v 1) (gH C v 2) o) ∧ (gS C 4 = 0 ∨ ¬ (∃ a, a < nA ∧ q_am C (nI a) px py (gH C v 1) (gH C v 2))))))) (cH C Hs (RS, SD, XS, YS, OR, shn) T1 (px, py, p3, p4, p5, p6) Od T2 P2) := by
  intro m
  induction m with
  | zero =>
    intro k hk hk2
    refine mJ_iload dX4_isFree_55 rfl ?_
    refine mJ_aload_n dX4_isFree_57 rfl ?_
    refine mJ_iconst (v := 4) dX4_isFree_58 rfl ?_
    refine mJ_cV1i dX4_isFree_59 e_X5_get n_X4_66 ⟨Nat.le_of_ble_eq_true rfl, Nat.le_of_ble_eq_true rfl⟩ rfl rfl (Nat.le_of_ble_eq_true rfl) (C_X5_get) ?_
    refine mJ_icmp_ge 99 dX4_isFree_62 rfl (fun c_62 => ?_) (fun c_62 => False.elim (by exact c_62 (by rw [h4, show k = nA by omega]; exact Int32.le_refl _)))
    refine mJ_iconst (v := 1) dX4_isFree_99 rfl ?_
    exact mJ_zret dX4_isFree_100 rfl (Or.inr rfl) (z_t ⟨hno, Or.inr (by rw [← show k = nA by omega]; exact hk2)⟩) (rfl)
  | succ m ih =>
    intro k hk hk2
    refine mJ_iload dX4_isFree_55 rfl ?_
    refine mJ_aload_n dX4_isFree_57 rfl ?_
    refine mJ_iconst (v := 4) dX4_isFree_58 rfl ?_
    refine mJ_cV1i dX4_isFree_59 e_X5_get n_X4_66 ⟨Nat.le_of_ble_eq_true rfl, Nat.le_of_ble_eq_true rfl⟩ rfl rfl (Nat.le_of_ble_eq_true rfl) (C_X5_get) ?_
    refine mJ_icmp_ge 99 dX4_isFree_62 rfl (fun c_62 => False.elim (by rw [h4] at c_62; exact nI_ge (show k < nA by omega) (by omega) c_62)) (fun c_62 => ?_)
    refine mJ_aload_n dX4_isFree_65 rfl ?_
    refine mJ_iload dX4_isFree_66 rfl ?_
    refine mJ_aload_n dX4_isFree_68 rfl ?_
    refine mJ_get dX4_isFree_69 f_X4_42 rfl rfl ?_
    refine mJ_get_21_0 dX4_isFree_72 f_X4_106 ?_
    refine mJ_aload_n dX4_isFree_75 rfl ?_
    refine mJ_get dX4_isFree_76 f_X4_42 rfl rfl ?_
    refine mJ_get_21_1 dX4_isFree_79 f_X4_109 ?_
    refine mJ_iload_n dX4_isFree_82 rfl ?_
    refine mJ_iload dX4_isFree_83 rfl ?_
    refine mJ_cV5i dX4_isFree_85 e_X5_anchorMeets n_X4_116 ⟨Nat.le_of_ble_eq_true rfl, Nat.le_of_ble_eq_true rfl⟩ rfl rfl (Nat.le_of_ble_eq_true rfl) (C_X5_anchorMeets) ?_
    refine mJ_b2i (fun b_85 => ?_) (fun b_85 => ?_)
    · refine mJ_if_eq 93 dX4_isFree_88 rfl (fun c => absurd c (by decide)) (fun _ => ?_)
      refine mJ_iconst (v := 0) dX4_isFree_91 rfl ?_
      exact mJ_zret dX4_isFree_92 rfl (Or.inl rfl) (z_f (fun z => z.2.elim hs4 (fun z => z ⟨k, by omega, b_85⟩))) (rfl)
    · refine mJ_if_eq 93 dX4_isFree_88 rfl (fun _ => ?_) (fun c => absurd c (by decide))
      refine mJ_iinc dX4_isFree_93 rfl (Nat.le_of_ble_eq_true rfl) (v := nI (k + 1)) (nI_1 k) (ls2 := [_, _, _, _, _, _]) rfl ?_
      refine mJ_goto 55 dX4_isFree_96 rfl ?_
      exact ih (k + 1) (by omega) (fun z => (ex_s.mp z).elim hk2 b_85)
set_option maxHeartbeats 4000000 in
set_option maxRecDepth 100000 in
theorem C_X4_isFree {C : aF} {Hs : tH} {T1 : tT} {Od : tO} {T2 : tT} {P2 : tP} {RS SD XS YS OR : aF} {shn : Int32} {px py p3 p4 p5 p6 : Int32} {nH : Nat} (h5 : gG C 5 = nI nH) (hl : nH ≤ 12) {nA : Nat} (h4 : gG C 4 = nI nA) (hl4 : nA ≤ 10) {v : Int32} : mCt k_X4_isFree [.ref 7, .ref 1, .int v] (cH C Hs (RS, SD, XS, YS, OR, shn) T1 (px, py, p3, p4, p5, p6) Od T2 P2) (some (.int (b2i (¬ (∃ o, o < nH ∧ mP C RS XS YS px py (gH C v 1) (gH C v 2) o) ∧ (gS C 4 = 0 ∨ ¬ (∃ a, a < nA ∧ q_am C (nI a) px py (gH C v 1) (gH C v 2))))))) (cH C Hs (RS, SD, XS, YS, OR, shn) T1 (px, py, p3, p4, p5, p6) Od T2 P2) := by
  refine mCt_intro (plainFor_of_name rfl) (Nat.le_of_ble_eq_true rfl) (m_all rfl) (ls := [_, _, _, _, _, _]) rfl ?_
  refine mJ_aload_n dX4_isFree_0 rfl ?_
  refine mJ_iload_n dX4_isFree_1 rfl ?_
  refine mJ_iconst (v := 1) dX4_isFree_2 rfl ?_
  refine mJ_cV2i dX4_isFree_3 e_X5_hintValue n_X4_76 ⟨Nat.le_of_ble_eq_true rfl, Nat.le_of_ble_eq_true rfl⟩ rfl rfl (Nat.le_of_ble_eq_true rfl) (C_X5_hintValue) ?_
  refine mJ_istore_n dX4_isFree_6 (Nat.le_of_ble_eq_true rfl) (ls2 := [_, _, _, _, _, _]) rfl ?_
  refine mJ_aload_n dX4_isFree_7 rfl ?_
  refine mJ_iload_n dX4_isFree_8 rfl ?_
  refine mJ_iconst (v := 2) dX4_isFree_9 rfl ?_
  refine mJ_cV2i dX4_isFree_10 e_X5_hintValue n_X4_76 ⟨Nat.le_of_ble_eq_true rfl, Nat.le_of_ble_eq_true rfl⟩ rfl rfl (Nat.le_of_ble_eq_true rfl) (C_X5_hintValue) ?_
  refine mJ_istore dX4_isFree_13 (Nat.le_of_ble_eq_true rfl) (ls2 := [_, _, _, _, _, _]) rfl ?_
  refine mJ_aload_n dX4_isFree_15 rfl ?_
  refine mJ_aload_n dX4_isFree_16 rfl ?_
  refine mJ_aload_n dX4_isFree_17 rfl ?_
  refine mJ_get dX4_isFree_18 f_X4_42 rfl rfl ?_
  refine mJ_get_21_0 dX4_isFree_21 f_X4_106 ?_
  refine mJ_aload_n dX4_isFree_24 rfl ?_
  refine mJ_get dX4_isFree_25 f_X4_42 rfl rfl ?_
  refine mJ_get_21_1 dX4_isFree_28 f_X4_109 ?_
  refine mJ_iload_n dX4_isFree_31 rfl ?_
  refine mJ_iload dX4_isFree_32 rfl ?_
  refine mJ_cV5i dX4_isFree_34 e_X4_shownThatMeets n_X4_112 ⟨Nat.le_of_ble_eq_true rfl, Nat.le_of_ble_eq_true rfl⟩ rfl rfl (Nat.le_of_ble_eq_true rfl) (C_X4_shownThatMeets h5 hl) ?_
  refine mJ_if_lt 42 dX4_isFree_37 rfl (fun c_37 => ?_) (fun c_37 => ?_)
  · have hno : ¬ ∃ o, o < nH ∧ mP C RS XS YS px py (gH C v 1) (gH C v 2) o := fun ⟨o, h2, h3⟩ => (fT_neg (m := nH) (k := 0) (by omega)).mp c_37 ⟨o, Nat.zero_le _, by omega, h3⟩
    refine mJ_aload_n dX4_isFree_42 rfl ?_
    refine mJ_iconst (v := 4) dX4_isFree_43 rfl ?_
    refine mJ_cV1i dX4_isFree_44 e_X5_setting n_X4_83 ⟨Nat.le_of_ble_eq_true rfl, Nat.le_of_ble_eq_true rfl⟩ rfl rfl (Nat.le_of_ble_eq_true rfl) (C_X5_setting) ?_
    refine mJ_if_ne 52 dX4_isFree_47 rfl (fun c_47 => ?_) (fun c_47 => ?_)
    · refine mJ_iconst (v := 0) dX4_isFree_52 rfl ?_
      refine mJ_istore dX4_isFree_53 (Nat.le_of_ble_eq_true rfl) (ls2 := [_, _, _, _, _, _]) rfl ?_
      exact L_X4_isFree h5 hl h4 hl4 hno c_47 nA 0 (by omega) (fun ⟨a, ha, _⟩ => absurd ha (by omega))
    · refine mJ_iconst (v := 1) dX4_isFree_50 rfl ?_
      exact mJ_zret dX4_isFree_51 rfl (Or.inr rfl) (z_t ⟨hno, Or.inl c_47⟩) (rfl)
  · refine mJ_iconst (v := 0) dX4_isFree_40 rfl ?_
    exact mJ_zret dX4_isFree_41 rfl (Or.inl rfl) (z_f (fun z => c_37 ((fT_neg (m := nH) (k := 0) (by omega)).mpr (fun ⟨o, _, h2, h3⟩ => z.1 ⟨o, by omega, h3⟩)))) (rfl)
noncomputable def tn (C : aF) (nH : Nat) (v : Int32) : Nat := cN (fun o => q_open C (nI o) ∧ q_gb C (nI o) v) nH
noncomputable def orW (C OR : aF) (nH : Nat) : Nat → aF
  | 0 => OR
  | k + 1 => iif (q_open C (nI k)) (rp 12 (orW C OR nH k) (nI (tn C nH (nI k))) (nI k)) (orW C OR nH k)
theorem rpK (f : aF) {k : Nat} {v : Int32} (hk : k < 12) : rp 12 (iK f v k) (nI k) v = iK f v (k + 1) := by rw [rp_in _ _ hk (by omega), iK_s]
set_option maxHeartbeats 4000000 in
set_option maxRecDepth 100000 in
theorem L_X4_orderOpenHints {C : aF} {Hs : tH} {T1 : tT} {P1 : tP} {Od : tO} {T2 : tT} {P2 : tP} {RS SD XS YS OR : aF} {shn : Int32} {nH : Nat} (h5 : gG C 5 = nI nH) (hl : nH ≤ 12) : ∀ (m k : Nat), k + m = nH → mJ k_X4_orderOpenHints 4 [.ref 7, .ref 1, .int (nI (cN (fun o => q_open C (nI o)) k)), .int (nI k)] [] (cH C Hs (iK RS 1 k, SD, XS, YS, orW C OR nH k, shn) T1 P1 Od T2 P2) (some (.int (nI (cN (fun o => q_open C (nI o)) nH)))) (cH C Hs (iK RS 1 nH, SD, XS, YS, orW C OR nH nH, shn) T1 P1 Od T2 P2) := by
  intro m
  induction m with
  | zero =>
    intro k hk
    refine mJ_iload_n dX4_orderOpenHints_4 rfl ?_
    refine mJ_aload_n dX4_orderOpenHints_5 rfl ?_
    refine mJ_iconst (v := 5) dX4_orderOpenHints_6 rfl ?_
    refine mJ_cV1i dX4_orderOpenHints_7 e_X5_get n_X4_66 ⟨Nat.le_of_ble_eq_true rfl, Nat.le_of_ble_eq_true rfl⟩ rfl rfl (Nat.le_of_ble_eq_true rfl) (C_X5_get) ?_
    refine mJ_icmp_ge 52 dX4_orderOpenHints_10 rfl (fun c_10 => ?_) (fun c_10 => False.elim (by exact c_10 (by rw [h5, show k = nH by omega]; exact Int32.le_refl _)))
    refine mJ_iload_n dX4_orderOpenHints_52 rfl ?_
    exact mJ_iret dX4_orderOpenHints_53 rfl (by rw [show k = nH by omega]) (by rw [show k = nH by omega])
  | succ m ih =>
    intro k hk
    refine mJ_iload_n dX4_orderOpenHints_4 rfl ?_
    refine mJ_aload_n dX4_orderOpenHints_5 rfl ?_
    refine mJ_iconst (v := 5) dX4_orderOpenHints_6 rfl ?_
    refine mJ_cV1i dX4_orderOpenHints_7 e_X5_get n_X4_66 ⟨Nat.le_of_ble_eq_true rfl, Nat.le_of_ble_eq_true rfl⟩ rfl rfl (Nat.le_of_ble_eq_true rfl) (C_X5_get) ?_
    refine mJ_icmp_ge 52 dX4_orderOpenHints_10 rfl (fun c_10 => False.elim (by rw [h5] at c_10; exact nI_ge (show k < nH by omega) (by omega) c_10)) (fun c_10 => ?_)
    refine mJ_aload_n dX4_orderOpenHints_13 rfl ?_
    refine mJ_get dX4_orderOpenHints_14 f_X4_14 rfl rfl ?_
    refine mJ_iload_n dX4_orderOpenHints_17 rfl ?_
    refine mJ_iconst (v := 1) dX4_orderOpenHints_18 rfl ?_
    refine mJ_cV2v dX4_orderOpenHints_19 e_X3_put n_X4_62 ⟨Nat.le_of_ble_eq_true rfl, Nat.le_of_ble_eq_true rfl⟩ rfl rfl (Nat.le_of_ble_eq_true rfl) (C_put_9) ?_
    refine mJ_aload_n dX4_orderOpenHints_22 rfl ?_
    refine mJ_iload_n dX4_orderOpenHints_23 rfl ?_
    refine mJ_cV1i dX4_orderOpenHints_24 e_X5_isOpen n_X4_69 ⟨Nat.le_of_ble_eq_true rfl, Nat.le_of_ble_eq_true rfl⟩ rfl rfl (Nat.le_of_ble_eq_true rfl) (C_X5_isOpen) ?_
    refine mJ_b2i (fun b_24 => ?_) (fun b_24 => ?_)
    · refine mJ_if_eq 46 dX4_orderOpenHints_27 rfl (fun c => absurd c (by decide)) (fun _ => ?_)
      refine mJ_aload_n dX4_orderOpenHints_30 rfl ?_
      refine mJ_get dX4_orderOpenHints_31 f_X4_29 rfl rfl ?_
      refine mJ_aload_n dX4_orderOpenHints_34 rfl ?_
      refine mJ_iload_n dX4_orderOpenHints_35 rfl ?_
      refine mJ_cV1i dX4_orderOpenHints_36 e_X5_turn n_X4_73 ⟨Nat.le_of_ble_eq_true rfl, Nat.le_of_ble_eq_true rfl⟩ rfl rfl (Nat.le_of_ble_eq_true rfl) (C_X5_turn h5 hl) ?_
      refine mJ_iload_n dX4_orderOpenHints_39 rfl ?_
      refine mJ_cV2v dX4_orderOpenHints_40 e_X3_put n_X4_62 ⟨Nat.le_of_ble_eq_true rfl, Nat.le_of_ble_eq_true rfl⟩ rfl rfl (Nat.le_of_ble_eq_true rfl) (C_put_17) ?_
      refine mJ_iinc dX4_orderOpenHints_43 rfl (Nat.le_of_ble_eq_true rfl) (v := nI (cN (fun o => q_open C (nI o)) k + 1)) (nI_1 _) (ls2 := [_, _, _, _]) rfl ?_
      refine mJ_iinc dX4_orderOpenHints_46 rfl (Nat.le_of_ble_eq_true rfl) (v := nI (k + 1)) (nI_1 k) (ls2 := [_, _, _, _]) rfl ?_
      refine mJ_goto 4 dX4_orderOpenHints_49 rfl ?_
      rw [show cN (fun o => q_open C (nI o)) k + 1 = cN (fun o => q_open C (nI o)) (k + 1) from (iif_t b_24).symm]
      refine mJ_heap (h2 := (cH C Hs (iK RS 1 (k + 1), SD, XS, YS, orW C OR nH (k + 1), shn) T1 P1 Od T2 P2)) (by rw [← rpK RS (show k < 12 by omega), show orW C OR nH (k + 1) = _ from iif_t b_24]; try rfl) ?_
      exact ih (k + 1) (by omega)
    · refine mJ_if_eq 46 dX4_orderOpenHints_27 rfl (fun _ => ?_) (fun c => absurd c (by decide))
      refine mJ_iinc dX4_orderOpenHints_46 rfl (Nat.le_of_ble_eq_true rfl) (v := nI (k + 1)) (nI_1 k) (ls2 := [_, _, _, _]) rfl ?_
      refine mJ_goto 4 dX4_orderOpenHints_49 rfl ?_
      rw [show cN (fun o => q_open C (nI o)) k = cN (fun o => q_open C (nI o)) (k + 1) from (iif_f b_24).symm]
      refine mJ_heap (h2 := (cH C Hs (iK RS 1 (k + 1), SD, XS, YS, orW C OR nH (k + 1), shn) T1 P1 Od T2 P2)) (by rw [← rpK RS (show k < 12 by omega), show orW C OR nH (k + 1) = _ from iif_f b_24]; try rfl) ?_
      exact ih (k + 1) (by omega)
set_option maxHeartbeats 4000000 in
set_option maxRecDepth 100000 in
theorem C_X4_orderOpenHints {C : aF} {Hs : tH} {T1 : tT} {P1 : tP} {Od : tO} {T2 : tT} {P2 : tP} {RS SD XS YS OR : aF} {shn : Int32} {nH : Nat} (h5 : gG C 5 = nI nH) (hl : nH ≤ 12) : mCt k_X4_orderOpenHints [.ref 7, .ref 1] (cH C Hs (RS, SD, XS, YS, OR, shn) T1 P1 Od T2 P2) (some (.int (nI (cN (fun o => q_open C (nI o)) nH)))) (cH C Hs (iK RS 1 nH, SD, XS, YS, orW C OR nH nH, shn) T1 P1 Od T2 P2) := by
  refine mCt_intro (plainFor_of_name rfl) (Nat.le_of_ble_eq_true rfl) (m_all rfl) (ls := [_, _, _, _]) rfl ?_
  refine mJ_iconst (v := 0) dX4_orderOpenHints_0 rfl ?_
  refine mJ_istore_n dX4_orderOpenHints_1 (Nat.le_of_ble_eq_true rfl) (ls2 := [_, _, _, _]) rfl ?_
  refine mJ_iconst (v := 0) dX4_orderOpenHints_2 rfl ?_
  refine mJ_istore_n dX4_orderOpenHints_3 (Nat.le_of_ble_eq_true rfl) (ls2 := [_, _, _, _]) rfl ?_
  refine mJ_heap (h2 := (cH C Hs (iK RS 1 0, SD, XS, YS, orW C OR nH 0, shn) T1 P1 Od T2 P2)) (by rw [iK_0]; try rfl) ?_
  exact L_X4_orderOpenHints h5 hl nH 0 (by omega)
