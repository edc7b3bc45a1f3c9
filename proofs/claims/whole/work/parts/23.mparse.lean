/-! THE REFERENCE: the text of orders is read -/
theorem xS_lt {f : aF} {n p : Nat} (h : p < n) : xS f n p = f p := if_pos h
theorem xS_ge {f : aF} {n p : Nat} (h : n ≤ p) : xS f n p = 0 := if_neg (by omega)
set_option maxHeartbeats 4000000 in
set_option maxRecDepth 100000 in
theorem C_X8_passes_t {d was text ord why son tri : aF} {sta sig fst snd rea lef top shf arr goo shn trs : Int32} {n : Nat} (hn : n ≤ 60) {p : Nat} {c : Int32} (hc : ¬ c = 0) (h : xS text n p = c) : mCt k_X8_passes [.ref 0, .int c] (mH d was sta text (nI n) (nI p) sig fst snd rea lef top shf arr goo ord why son shn tri trs) (some (.int (b2i (xS text n p = c)))) (mH d was sta text (nI n) (nI (p + 1)) sig fst snd rea lef top shf arr goo ord why son shn tri trs) := by
  have hc0 := hc
  have hp : p < n := Classical.byContradiction fun q => hc (by rw [← h]; exact (xS_ge (by omega)))
  refine mCt_intro (plainFor_of_name rfl) (Nat.le_of_ble_eq_true rfl) (m_all rfl) (ls := [_, _, _]) rfl ?_
  refine mJ_aload_n dX8_passes_0 rfl ?_
  refine mJ_get dX8_passes_1 f_X8_159 rfl rfl ?_
  refine mJ_aload_n dX8_passes_4 rfl ?_
  refine mJ_get dX8_passes_5 f_X8_131 rfl rfl ?_
  refine mJ_icmp_ge 28 dX8_passes_8 rfl (fun c_8 => False.elim (by exact nI_ge hp (by omega) c_8)) (fun c_8 => ?_)
  refine mJ_aload_n dX8_passes_11 rfl ?_
  refine mJ_get dX8_passes_12 f_X8_16 rfl rfl ?_
  refine mJ_aload_n dX8_passes_15 rfl ?_
  refine mJ_get dX8_passes_16 f_X8_159 rfl rfl ?_
  refine mJ_caldN dX8_passes_19 rfl (j := p) ⟨rfl, by omega, by decide⟩ ?_
  refine mJ_iload_n dX8_passes_20 rfl ?_
  refine mJ_icmp_ne 28 dX8_passes_21 rfl (fun c_21 => False.elim (by exact c_21 (by rw [← xS_lt (f := text) hp]; exact h))) (fun c_21 => ?_)
  refine mJ_iconst (v := 1) dX8_passes_24 rfl ?_
  refine mJ_goto 29 dX8_passes_25 rfl ?_
  refine mJ_istore_n dX8_passes_29 (Nat.le_of_ble_eq_true rfl) (ls2 := [_, _, _]) rfl ?_
  refine mJ_aload_n dX8_passes_30 rfl ?_
  refine mJ_dup dX8_passes_31 rfl ?_
  refine mJ_get dX8_passes_32 f_X8_159 rfl rfl ?_
  refine mJ_iload_n dX8_passes_35 rfl ?_
  refine mJ_if_eq 43 dX8_passes_36 rfl (fun c => absurd c (by decide)) (fun _ => ?_)
  refine mJ_iconst (v := 1) dX8_passes_39 rfl ?_
  refine mJ_goto 44 dX8_passes_40 rfl ?_
  refine mJ_iadd dX8_passes_44 ?_
  refine mJ_top (nI_1 p) ?_
  refine mJ_put dX8_passes_45 p_X8_159 rfl (Nat.le_of_ble_eq_true rfl) rfl rfl (h2 := mH _ _ _ _ _ _ _ _ _ _ _ _ _ _ _ _ _ _ _ _ _) rfl ?_
  refine mJ_iload_n dX8_passes_48 rfl ?_
  exact mJ_zret dX8_passes_49 rfl (Or.inr rfl) (z_t h) (rfl)
set_option maxHeartbeats 4000000 in
set_option maxRecDepth 100000 in
theorem C_X8_passes_f {d was text ord why son tri : aF} {sta sig fst snd rea lef top shf arr goo shn trs : Int32} {n : Nat} (hn : n ≤ 60) {p : Nat} {c : Int32} (hp1 : p < 1000) (h : ¬ xS text n p = c) : mCt k_X8_passes [.ref 0, .int c] (mH d was sta text (nI n) (nI p) sig fst snd rea lef top shf arr goo ord why son shn tri trs) (some (.int (b2i (xS text n p = c)))) (mH d was sta text (nI n) (nI p) sig fst snd rea lef top shf arr goo ord why son shn tri trs) := by
  by_cases hp : p < n
  · refine mCt_intro (plainFor_of_name rfl) (Nat.le_of_ble_eq_true rfl) (m_all rfl) (ls := [_, _, _]) rfl ?_
    refine mJ_aload_n dX8_passes_0 rfl ?_
    refine mJ_get dX8_passes_1 f_X8_159 rfl rfl ?_
    refine mJ_aload_n dX8_passes_4 rfl ?_
    refine mJ_get dX8_passes_5 f_X8_131 rfl rfl ?_
    refine mJ_icmp_ge 28 dX8_passes_8 rfl (fun c_8 => False.elim (by exact nI_ge hp (by omega) c_8)) (fun c_8 => ?_)
    refine mJ_aload_n dX8_passes_11 rfl ?_
    refine mJ_get dX8_passes_12 f_X8_16 rfl rfl ?_
    refine mJ_aload_n dX8_passes_15 rfl ?_
    refine mJ_get dX8_passes_16 f_X8_159 rfl rfl ?_
    refine mJ_caldN dX8_passes_19 rfl (j := p) ⟨rfl, by omega, by decide⟩ ?_
    refine mJ_iload_n dX8_passes_20 rfl ?_
    refine mJ_icmp_ne 28 dX8_passes_21 rfl (fun c_21 => ?_) (fun c_21 => False.elim (by exact h (by rw [xS_lt hp]; exact c_21)))
    refine mJ_iconst (v := 0) dX8_passes_28 rfl ?_
    refine mJ_istore_n dX8_passes_29 (Nat.le_of_ble_eq_true rfl) (ls2 := [_, _, _]) rfl ?_
    refine mJ_aload_n dX8_passes_30 rfl ?_
    refine mJ_dup dX8_passes_31 rfl ?_
    refine mJ_get dX8_passes_32 f_X8_159 rfl rfl ?_
    refine mJ_iload_n dX8_passes_35 rfl ?_
    refine mJ_if_eq 43 dX8_passes_36 rfl (fun _ => ?_) (fun c => absurd c (by decide))
    refine mJ_iconst (v := 0) dX8_passes_43 rfl ?_
    refine mJ_iadd dX8_passes_44 ?_
    refine mJ_top (Int32.add_zero _) ?_
    refine mJ_put dX8_passes_45 p_X8_159 rfl (Nat.le_of_ble_eq_true rfl) rfl rfl (h2 := mH _ _ _ _ _ _ _ _ _ _ _ _ _ _ _ _ _ _ _ _ _) rfl ?_
    refine mJ_iload_n dX8_passes_48 rfl ?_
    exact mJ_zret dX8_passes_49 rfl (Or.inl rfl) (z_f h) (rfl)
  · refine mCt_intro (plainFor_of_name rfl) (Nat.le_of_ble_eq_true rfl) (m_all rfl) (ls := [_, _, _]) rfl ?_
    refine mJ_aload_n dX8_passes_0 rfl ?_
    refine mJ_get dX8_passes_1 f_X8_159 rfl rfl ?_
    refine mJ_aload_n dX8_passes_4 rfl ?_
    refine mJ_get dX8_passes_5 f_X8_131 rfl rfl ?_
    refine mJ_icmp_ge 28 dX8_passes_8 rfl (fun c_8 => ?_) (fun c_8 => False.elim (by exact c_8 (nI_le (by omega) (by omega))))
    refine mJ_iconst (v := 0) dX8_passes_28 rfl ?_
    refine mJ_istore_n dX8_passes_29 (Nat.le_of_ble_eq_true rfl) (ls2 := [_, _, _]) rfl ?_
    refine mJ_aload_n dX8_passes_30 rfl ?_
    refine mJ_dup dX8_passes_31 rfl ?_
    refine mJ_get dX8_passes_32 f_X8_159 rfl rfl ?_
    refine mJ_iload_n dX8_passes_35 rfl ?_
    refine mJ_if_eq 43 dX8_passes_36 rfl (fun _ => ?_) (fun c => absurd c (by decide))
    refine mJ_iconst (v := 0) dX8_passes_43 rfl ?_
    refine mJ_iadd dX8_passes_44 ?_
    refine mJ_top (Int32.add_zero _) ?_
    refine mJ_put dX8_passes_45 p_X8_159 rfl (Nat.le_of_ble_eq_true rfl) rfl rfl (h2 := mH _ _ _ _ _ _ _ _ _ _ _ _ _ _ _ _ _ _ _ _ _) rfl ?_
    refine mJ_iload_n dX8_passes_48 rfl ?_
    exact mJ_zret dX8_passes_49 rfl (Or.inl rfl) (z_f h) (rfl)
theorem nI_gtn {p k : Nat} (h : p + k < 2 ^ 31) (c : ¬ nI (p + k) ≤ nI p) : 0 < k := Classical.byContradiction fun q => c (nI_le (by omega) (by omega))
theorem nI_ngt {p k : Nat} (h : p + k < 2 ^ 31) (hk : 0 < k) : ¬ nI (p + k) ≤ nI p := nI_ge (by omega) h
set_option maxHeartbeats 4000000 in
set_option maxRecDepth 100000 in
theorem L_X8_readsNumber {d was text ord why son tri : aF} {sta sig fst rea lef top shf arr goo shn trs : Int32} {n : Nat} (hn : n ≤ 60) {M p0 : Nat} (hM : M ≤ 3) (hp0 : p0 < 1000) : ∀ (m k : Nat) (a : Int32), k + m = M → mJ k_X8_readsNumber 10 [.ref 0, .int (nI M), .int (nI p0)] [] (mH d was sta text (nI n) (nI (p0 + k)) sig fst (a) rea lef top shf arr goo ord why son shn tri trs) (some (.int (b2i (0 < k + tC text n m (p0 + k))))) (mH d was sta text (nI n) (nI (p0 + k + tC text n m (p0 + k))) sig fst (tV text n m (p0 + k) a) rea lef top shf arr goo ord why son shn tri trs) := by
  intro m
  induction m with
  | zero =>
    intro k a hk
    rw [show p0 + k + tC text n 0 (p0 + k) = p0 + k from rfl, show k + tC text n 0 (p0 + k) = k from rfl, show tV text n 0 (p0 + k) a = a from rfl]
    refine mJ_aload_n dX8_readsNumber_10 rfl ?_
    refine mJ_get dX8_readsNumber_11 f_X8_159 rfl rfl ?_
    refine mJ_aload_n dX8_readsNumber_14 rfl ?_
    refine mJ_get dX8_readsNumber_15 f_X8_131 rfl rfl ?_
    refine mJ_icmp_ge 87 dX8_readsNumber_18 rfl (fun c_18 => ?_) (fun c_18 => ?_)
    · refine mJ_aload_n dX8_readsNumber_87 rfl ?_
      refine mJ_get dX8_readsNumber_88 f_X8_159 rfl rfl ?_
      refine mJ_iload_n dX8_readsNumber_91 rfl ?_
      refine mJ_icmp_le 99 dX8_readsNumber_92 rfl (fun c_92 => ?_) (fun c_92 => ?_)
      · refine mJ_iconst (v := 0) dX8_readsNumber_99 rfl ?_
        exact mJ_zret dX8_readsNumber_100 rfl (Or.inl rfl) (by exact z_f (fun q => nI_ngt (by omega) (by omega) c_92)) (rfl)
      · refine mJ_iconst (v := 1) dX8_readsNumber_95 rfl ?_
        refine mJ_goto 100 dX8_readsNumber_96 rfl ?_
        exact mJ_zret dX8_readsNumber_100 rfl (Or.inr rfl) (by exact z_t (by have := nI_gtn (by omega) c_92; omega)) (rfl)
    · refine mJ_aload_n dX8_readsNumber_21 rfl ?_
      refine mJ_get dX8_readsNumber_22 f_X8_159 rfl rfl ?_
      refine mJ_iload_n dX8_readsNumber_25 rfl ?_
      refine mJ_iload_n dX8_readsNumber_26 rfl ?_
      refine mJ_iadd dX8_readsNumber_27 ?_
      refine mJ_icmp_ge 87 dX8_readsNumber_28 rfl (fun c_28 => ?_) (fun c_28 => False.elim (by exact c_28 (by rw [nI_add, show k = M by omega]; exact Int32.le_refl _)))
      refine mJ_aload_n dX8_readsNumber_87 rfl ?_
      refine mJ_get dX8_readsNumber_88 f_X8_159 rfl rfl ?_
      refine mJ_iload_n dX8_readsNumber_91 rfl ?_
      refine mJ_icmp_le 99 dX8_readsNumber_92 rfl (fun c_92 => ?_) (fun c_92 => ?_)
      · refine mJ_iconst (v := 0) dX8_readsNumber_99 rfl ?_
        exact mJ_zret dX8_readsNumber_100 rfl (Or.inl rfl) (by exact z_f (fun q => nI_ngt (by omega) (by omega) c_92)) (rfl)
      · refine mJ_iconst (v := 1) dX8_readsNumber_95 rfl ?_
        refine mJ_goto 100 dX8_readsNumber_96 rfl ?_
        exact mJ_zret dX8_readsNumber_100 rfl (Or.inr rfl) (by exact z_t (by have := nI_gtn (by omega) c_92; omega)) (rfl)
  | succ m ih =>
    intro k a hk
    by_cases hp : p0 + k < n
    · by_cases hd : q_dig (xS text n (p0 + k))
      · have hq : q_rg (text (p0 + k)) 48 57 := by have := hd; rw [xS_lt hp] at this; exact this
        have hval : 10 * a + text (p0 + k) - 48 = a * 10 + xS text n (p0 + k) - 48 := by rw [xS_lt hp, Int32.mul_comm]
        refine mJ_aload_n dX8_readsNumber_10 rfl ?_
        refine mJ_get dX8_readsNumber_11 f_X8_159 rfl rfl ?_
        refine mJ_aload_n dX8_readsNumber_14 rfl ?_
        refine mJ_get dX8_readsNumber_15 f_X8_131 rfl rfl ?_
        refine mJ_icmp_ge 87 dX8_readsNumber_18 rfl (fun c_18 => False.elim (by exact nI_ge hp (by omega) c_18)) (fun c_18 => ?_)
        refine mJ_aload_n dX8_readsNumber_21 rfl ?_
        refine mJ_get dX8_readsNumber_22 f_X8_159 rfl rfl ?_
        refine mJ_iload_n dX8_readsNumber_25 rfl ?_
        refine mJ_iload_n dX8_readsNumber_26 rfl ?_
        refine mJ_iadd dX8_readsNumber_27 ?_
        refine mJ_icmp_ge 87 dX8_readsNumber_28 rfl (fun c_28 => False.elim (by rw [nI_add] at c_28; exact nI_ge (show p0 + k < p0 + M by omega) (by omega) c_28)) (fun c_28 => ?_)
        refine mJ_aload_n dX8_readsNumber_31 rfl ?_
        refine mJ_get dX8_readsNumber_32 f_X8_16 rfl rfl ?_
        refine mJ_aload_n dX8_readsNumber_35 rfl ?_
        refine mJ_get dX8_readsNumber_36 f_X8_159 rfl rfl ?_
        refine mJ_caldN dX8_readsNumber_39 rfl (j := p0 + k) ⟨rfl, by omega, by decide⟩ ?_
        refine mJ_bipush (v := 48) dX8_readsNumber_40 rfl ?_
        refine mJ_bipush (v := 57) dX8_readsNumber_42 rfl ?_
        refine mJ_cS3i dX8_readsNumber_44 e_X8_in n_X8_32 ⟨Nat.le_of_ble_eq_true rfl, Nat.le_of_ble_eq_true rfl⟩ (Nat.le_of_ble_eq_true rfl) (C_X8_in) ?_
        refine mJ_top (b2i_t hq) ?_
        refine mJ_if_eq 87 dX8_readsNumber_47 rfl (fun c => absurd c (by decide)) (fun _ => ?_)
        refine mJ_aload_n dX8_readsNumber_50 rfl ?_
        refine mJ_bipush (v := 10) dX8_readsNumber_51 rfl ?_
        refine mJ_aload_n dX8_readsNumber_53 rfl ?_
        refine mJ_get dX8_readsNumber_54 f_X8_162 rfl rfl ?_
        refine mJ_imul dX8_readsNumber_57 ?_
        refine mJ_aload_n dX8_readsNumber_58 rfl ?_
        refine mJ_get dX8_readsNumber_59 f_X8_16 rfl rfl ?_
        refine mJ_aload_n dX8_readsNumber_62 rfl ?_
        refine mJ_get dX8_readsNumber_63 f_X8_159 rfl rfl ?_
        refine mJ_caldN dX8_readsNumber_66 rfl (j := p0 + k) ⟨rfl, by omega, by decide⟩ ?_
        refine mJ_iadd dX8_readsNumber_67 ?_
        refine mJ_bipush (v := 48) dX8_readsNumber_68 rfl ?_
        refine mJ_isub dX8_readsNumber_70 ?_
        refine mJ_top hval ?_
        refine mJ_put dX8_readsNumber_71 p_X8_162 rfl (Nat.le_of_ble_eq_true rfl) rfl rfl (h2 := mH _ _ _ _ _ _ _ _ _ _ _ _ _ _ _ _ _ _ _ _ _) rfl ?_
        refine mJ_aload_n dX8_readsNumber_74 rfl ?_
        refine mJ_dup dX8_readsNumber_75 rfl ?_
        refine mJ_get dX8_readsNumber_76 f_X8_159 rfl rfl ?_
        refine mJ_iconst (v := 1) dX8_readsNumber_79 rfl ?_
        refine mJ_iadd dX8_readsNumber_80 ?_
        refine mJ_top (nI_1 (p0 + k)) ?_
        refine mJ_put dX8_readsNumber_81 p_X8_159 rfl (Nat.le_of_ble_eq_true rfl) rfl rfl (h2 := mH _ _ _ _ _ _ _ _ _ _ _ _ _ _ _ _ _ _ _ _ _) rfl ?_
        refine mJ_goto 10 dX8_readsNumber_84 rfl ?_
        rw [tC_y hd, tV_y hd, show k + (tC text n m (p0 + k + 1) + 1) = (k + 1) + tC text n m (p0 + (k + 1)) by rw [Nat.add_assoc p0 k 1]; omega, show p0 + k + (tC text n m (p0 + k + 1) + 1) = p0 + (k + 1) + tC text n m (p0 + (k + 1)) by rw [Nat.add_assoc p0 k 1]; omega, show p0 + k + 1 = p0 + (k + 1) by omega]
        exact ih (k + 1) _ (by omega)
      · have hq : ¬ q_rg (text (p0 + k)) 48 57 := by have := hd; rw [xS_lt hp] at this; exact this
        refine mJ_aload_n dX8_readsNumber_10 rfl ?_
        refine mJ_get dX8_readsNumber_11 f_X8_159 rfl rfl ?_
        refine mJ_aload_n dX8_readsNumber_14 rfl ?_
        refine mJ_get dX8_readsNumber_15 f_X8_131 rfl rfl ?_
        refine mJ_icmp_ge 87 dX8_readsNumber_18 rfl (fun c_18 => False.elim (by exact nI_ge hp (by omega) c_18)) (fun c_18 => ?_)
        refine mJ_aload_n dX8_readsNumber_21 rfl ?_
        refine mJ_get dX8_readsNumber_22 f_X8_159 rfl rfl ?_
        refine mJ_iload_n dX8_readsNumber_25 rfl ?_
        refine mJ_iload_n dX8_readsNumber_26 rfl ?_
        refine mJ_iadd dX8_readsNumber_27 ?_
        refine mJ_icmp_ge 87 dX8_readsNumber_28 rfl (fun c_28 => False.elim (by rw [nI_add] at c_28; exact nI_ge (show p0 + k < p0 + M by omega) (by omega) c_28)) (fun c_28 => ?_)
        refine mJ_aload_n dX8_readsNumber_31 rfl ?_
        refine mJ_get dX8_readsNumber_32 f_X8_16 rfl rfl ?_
        refine mJ_aload_n dX8_readsNumber_35 rfl ?_
        refine mJ_get dX8_readsNumber_36 f_X8_159 rfl rfl ?_
        refine mJ_caldN dX8_readsNumber_39 rfl (j := p0 + k) ⟨rfl, by omega, by decide⟩ ?_
        refine mJ_bipush (v := 48) dX8_readsNumber_40 rfl ?_
        refine mJ_bipush (v := 57) dX8_readsNumber_42 rfl ?_
        refine mJ_cS3i dX8_readsNumber_44 e_X8_in n_X8_32 ⟨Nat.le_of_ble_eq_true rfl, Nat.le_of_ble_eq_true rfl⟩ (Nat.le_of_ble_eq_true rfl) (C_X8_in) ?_
        refine mJ_top (b2i_f hq) ?_
        refine mJ_if_eq 87 dX8_readsNumber_47 rfl (fun _ => ?_) (fun c => absurd c (by decide))
        refine mJ_aload_n dX8_readsNumber_87 rfl ?_
        refine mJ_get dX8_readsNumber_88 f_X8_159 rfl rfl ?_
        refine mJ_iload_n dX8_readsNumber_91 rfl ?_
        refine mJ_icmp_le 99 dX8_readsNumber_92 rfl (fun c_92 => ?_) (fun c_92 => ?_)
        · refine mJ_iconst (v := 0) dX8_readsNumber_99 rfl ?_
          exact mJ_zret dX8_readsNumber_100 rfl (Or.inl rfl) (by rw [tC_n hd]; exact z_f (fun q => nI_ngt (by omega) (by omega) c_92)) (by rw [tC_n hd, tV_n hd]; rfl)
        · refine mJ_iconst (v := 1) dX8_readsNumber_95 rfl ?_
          refine mJ_goto 100 dX8_readsNumber_96 rfl ?_
          exact mJ_zret dX8_readsNumber_100 rfl (Or.inr rfl) (by rw [tC_n hd]; exact z_t (by have := nI_gtn (by omega) c_92; omega)) (by rw [tC_n hd, tV_n hd]; rfl)
    · have hd : ¬ q_dig (xS text n (p0 + k)) := by rw [xS_ge (by omega)]; exact fun z => z.1 (by decide)
      refine mJ_aload_n dX8_readsNumber_10 rfl ?_
      refine mJ_get dX8_readsNumber_11 f_X8_159 rfl rfl ?_
      refine mJ_aload_n dX8_readsNumber_14 rfl ?_
      refine mJ_get dX8_readsNumber_15 f_X8_131 rfl rfl ?_
      refine mJ_icmp_ge 87 dX8_readsNumber_18 rfl (fun c_18 => ?_) (fun c_18 => False.elim (by exact c_18 (nI_le (by omega) (by omega))))
      refine mJ_aload_n dX8_readsNumber_87 rfl ?_
      refine mJ_get dX8_readsNumber_88 f_X8_159 rfl rfl ?_
      refine mJ_iload_n dX8_readsNumber_91 rfl ?_
      refine mJ_icmp_le 99 dX8_readsNumber_92 rfl (fun c_92 => ?_) (fun c_92 => ?_)
      · refine mJ_iconst (v := 0) dX8_readsNumber_99 rfl ?_
        exact mJ_zret dX8_readsNumber_100 rfl (Or.inl rfl) (by rw [tC_n hd]; exact z_f (fun q => nI_ngt (by omega) (by omega) c_92)) (by rw [tC_n hd, tV_n hd]; rfl)
      · refine mJ_iconst (v := 1) dX8_readsNumber_95 rfl ?_
        refine mJ_goto 100 dX8_readsNumber_96 rfl ?_
        exact mJ_zret dX8_readsNumber_100 rfl (Or.inr rfl) (by rw [tC_n hd]; exact z_t (by have := nI_gtn (by omega) c_92; omega)) (by rw [tC_n hd, tV_n hd]; rfl)
set_option maxHeartbeats 4000000 in
set_option maxRecDepth 100000 in
theorem C_X8_readsNumber {d was text ord why son tri : aF} {sta sig fst snd rea lef top shf arr goo shn trs : Int32} {n : Nat} (hn : n ≤ 60) {M p : Nat} (hM : M ≤ 3) (hp : p < 1000) : mCt k_X8_readsNumber [.ref 0, .int (nI M)] (mH d was sta text (nI n) (nI p) sig fst snd rea lef top shf arr goo ord why son shn tri trs) (some (.int (b2i (0 < tC text n M p)))) (mH d was sta text (nI n) (nI (p + tC text n M p)) sig fst (tV text n M p 0) rea lef top shf arr goo ord why son shn tri trs) := by
  refine mCt_intro (plainFor_of_name rfl) (Nat.le_of_ble_eq_true rfl) (m_all rfl) (ls := [_, _, _]) rfl ?_
  refine mJ_aload_n dX8_readsNumber_0 rfl ?_
  refine mJ_get dX8_readsNumber_1 f_X8_159 rfl rfl ?_
  refine mJ_istore_n dX8_readsNumber_4 (Nat.le_of_ble_eq_true rfl) (ls2 := [_, _, _]) rfl ?_
  refine mJ_aload_n dX8_readsNumber_5 rfl ?_
  refine mJ_iconst (v := 0) dX8_readsNumber_6 rfl ?_
  refine mJ_put dX8_readsNumber_7 p_X8_162 rfl (Nat.le_of_ble_eq_true rfl) rfl rfl (h2 := mH _ _ _ _ _ _ _ _ _ _ _ _ _ _ _ _ _ _ _ _ _) rfl ?_
  have h0 := L_X8_readsNumber (d := d) (was := was) (sta := sta) (text := text) (sig := sig) (fst := fst) (rea := rea) (lef := lef) (top := top) (shf := shf) (arr := arr) (goo := goo) (ord := ord) (why := why) (son := son) (shn := shn) (tri := tri) (trs := trs) hn hM hp M 0 0 (by omega)
  rw [Nat.zero_add] at h0
  exact h0
set_option maxHeartbeats 4000000 in
set_option maxRecDepth 100000 in
theorem C_X8_readsSigned {d was text ord why son tri : aF} {sta sig fst snd rea lef top shf arr goo shn trs : Int32} {n : Nat} (hn : n ≤ 60) {p : Nat} (hp : p < 900) : mCt k_X8_readsSigned [.ref 0] (mH d was sta text (nI n) (nI p) sig fst snd rea lef top shf arr goo ord why son shn tri trs) (some (.int (b2i (0 < (tSg text n p).1)))) (mH d was sta text (nI n) (nI (tSg text n p).2.2) sig fst ((tSg text n p).2.1) rea lef top shf arr goo ord why son shn tri trs) := by
  by_cases h : xS text n p = 45
  · rw [show tSg text n p = _ from if_pos h]
    refine mCt_intro (plainFor_of_name rfl) (Nat.le_of_ble_eq_true rfl) (m_all rfl) (ls := [_, _, _]) rfl ?_
    refine mJ_aload_n dX8_readsSigned_0 rfl ?_
    refine mJ_bipush (v := 45) dX8_readsSigned_1 rfl ?_
    refine mJ_cV1i dX8_readsSigned_3 e_X8_passes n_X8_165 ⟨Nat.le_of_ble_eq_true rfl, Nat.le_of_ble_eq_true rfl⟩ rfl rfl (Nat.le_of_ble_eq_true rfl) (C_X8_passes_t hn (p := p) (by decide) h) ?_
    refine mJ_top (b2i_t h) ?_
    refine mJ_istore_n dX8_readsSigned_6 (Nat.le_of_ble_eq_true rfl) (ls2 := [_, _, _]) rfl ?_
    refine mJ_aload_n dX8_readsSigned_7 rfl ?_
    refine mJ_iconst (v := 3) dX8_readsSigned_8 rfl ?_
    refine mJ_cV1i dX8_readsSigned_9 e_X8_readsNumber n_X8_169 ⟨Nat.le_of_ble_eq_true rfl, Nat.le_of_ble_eq_true rfl⟩ rfl rfl (Nat.le_of_ble_eq_true rfl) (C_X8_readsNumber hn (M := 3) (p := (p + 1)) (by omega) (by omega)) ?_
    refine mJ_istore_n dX8_readsSigned_12 (Nat.le_of_ble_eq_true rfl) (ls2 := [_, _, _]) rfl ?_
    refine mJ_aload_n dX8_readsSigned_13 rfl ?_
    refine mJ_iload_n dX8_readsSigned_14 rfl ?_
    refine mJ_if_eq 26 dX8_readsSigned_15 rfl (fun c => absurd c (by decide)) (fun _ => ?_)
    refine mJ_aload_n dX8_readsSigned_18 rfl ?_
    refine mJ_get dX8_readsSigned_19 f_X8_162 rfl rfl ?_
    refine mJ_ineg dX8_readsSigned_22 ?_
    refine mJ_goto 30 dX8_readsSigned_23 rfl ?_
    refine mJ_put dX8_readsSigned_30 p_X8_162 rfl (Nat.le_of_ble_eq_true rfl) rfl rfl (h2 := mH _ _ _ _ _ _ _ _ _ _ _ _ _ _ _ _ _ _ _ _ _) rfl ?_
    refine mJ_iload_n dX8_readsSigned_33 rfl ?_
    exact mJ_zret dX8_readsSigned_34 rfl (b2i_01 _) (rfl) (rfl)
  · rw [show tSg text n p = _ from if_neg h]
    refine mCt_intro (plainFor_of_name rfl) (Nat.le_of_ble_eq_true rfl) (m_all rfl) (ls := [_, _, _]) rfl ?_
    refine mJ_aload_n dX8_readsSigned_0 rfl ?_
    refine mJ_bipush (v := 45) dX8_readsSigned_1 rfl ?_
    refine mJ_cV1i dX8_readsSigned_3 e_X8_passes n_X8_165 ⟨Nat.le_of_ble_eq_true rfl, Nat.le_of_ble_eq_true rfl⟩ rfl rfl (Nat.le_of_ble_eq_true rfl) (C_X8_passes_f hn (p := p) (by omega) h) ?_
    refine mJ_top (b2i_f h) ?_
    refine mJ_istore_n dX8_readsSigned_6 (Nat.le_of_ble_eq_true rfl) (ls2 := [_, _, _]) rfl ?_
    refine mJ_aload_n dX8_readsSigned_7 rfl ?_
    refine mJ_iconst (v := 3) dX8_readsSigned_8 rfl ?_
    refine mJ_cV1i dX8_readsSigned_9 e_X8_readsNumber n_X8_169 ⟨Nat.le_of_ble_eq_true rfl, Nat.le_of_ble_eq_true rfl⟩ rfl rfl (Nat.le_of_ble_eq_true rfl) (C_X8_readsNumber hn (M := 3) (p := p) (by omega) (by omega)) ?_
    refine mJ_istore_n dX8_readsSigned_12 (Nat.le_of_ble_eq_true rfl) (ls2 := [_, _, _]) rfl ?_
    refine mJ_aload_n dX8_readsSigned_13 rfl ?_
    refine mJ_iload_n dX8_readsSigned_14 rfl ?_
    refine mJ_if_eq 26 dX8_readsSigned_15 rfl (fun _ => ?_) (fun c => absurd c (by decide))
    refine mJ_aload_n dX8_readsSigned_26 rfl ?_
    refine mJ_get dX8_readsSigned_27 f_X8_162 rfl rfl ?_
    refine mJ_put dX8_readsSigned_30 p_X8_162 rfl (Nat.le_of_ble_eq_true rfl) rfl rfl (h2 := mH _ _ _ _ _ _ _ _ _ _ _ _ _ _ _ _ _ _ _ _ _) rfl ?_
    refine mJ_iload_n dX8_readsSigned_33 rfl ?_
    exact mJ_zret dX8_readsSigned_34 rfl (b2i_01 _) (rfl) (rfl)
set_option maxHeartbeats 4000000 in
set_option maxRecDepth 100000 in
theorem C_X8_readsForm {d was text ord why son tri : aF} {sta sig fst snd rea lef top shf arr goo shn trs : Int32} {n : Nat} (hn : n ≤ 60) {p : Nat} (hp : p < n) : ∃ at' sig' fst' snd' : Int32, mCt k_X8_readsForm [.ref 0] (mH d was sta text (nI n) (nI p) sig fst snd rea lef top shf arr goo ord why son shn tri trs) (some (.int (b2i (xO text n p ≠ none)))) (mH d was sta text (nI n) (at') (sig') (fst') (snd') rea lef top shf arr goo ord why son shn tri trs) ∧ (∀ k a b q, xO text n p = some (k, a, b, q) → at' = nI q ∧ sig' = k ∧ (¬ k = 116 ∧ ¬ k = 118 → snd' = a) ∧ (k = 118 → fst' = a ∧ snd' = b)) := by
  have hs0 : text p = xS text n p := (xS_lt hp).symm
  by_cases k1 : xS text n p = 99
  · have hk := k1
    by_cases g1 : 0 < (tC text n 2 (p + 1))
    · by_cases g2 : xS text n (p + 1 + (tC text n 2 (p + 1))) = 59
      · have hx : xO text n p = some (xS text n p, (tV text n 2 (p + 1) 0), 0, (p + 1 + (tC text n 2 (p + 1))) + 1) := by
          rw [show xO text n p = _ from if_pos (Or.inl hk), if_pos ⟨g1, g2⟩]
        refine ⟨nI ((p + 1 + (tC text n 2 (p + 1))) + 1), xS text n p, fst, (tV text n 2 (p + 1) 0), ?_, (fun k a b q e => by rw [hx] at e; cases e; exact ⟨rfl, rfl, fun _ => rfl, fun z => absurd (hk.symm.trans z) (by decide)⟩)⟩
        refine mCt_intro (plainFor_of_name rfl) (Nat.le_of_ble_eq_true rfl) (m_all rfl) (ls := [_, _]) rfl ?_
        refine mJ_aload_n dX8_readsForm_0 rfl ?_
        refine mJ_aload_n dX8_readsForm_1 rfl ?_
        refine mJ_get dX8_readsForm_2 f_X8_16 rfl rfl ?_
        refine mJ_aload_n dX8_readsForm_5 rfl ?_
        refine mJ_get dX8_readsForm_6 f_X8_159 rfl rfl ?_
        refine mJ_caldN dX8_readsForm_9 rfl (j := p) ⟨rfl, by omega, by decide⟩ ?_
        refine mJ_top hs0 ?_
        refine mJ_put dX8_readsForm_10 p_X8_172 rfl (Nat.le_of_ble_eq_true rfl) rfl rfl (h2 := mH _ _ _ _ _ _ _ _ _ _ _ _ _ _ _ _ _ _ _ _ _) rfl ?_
        refine mJ_aload_n dX8_readsForm_13 rfl ?_
        refine mJ_dup dX8_readsForm_14 rfl ?_
        refine mJ_get dX8_readsForm_15 f_X8_159 rfl rfl ?_
        refine mJ_iconst (v := 1) dX8_readsForm_18 rfl ?_
        refine mJ_iadd dX8_readsForm_19 ?_
        refine mJ_top (nI_1 p) ?_
        refine mJ_put dX8_readsForm_20 p_X8_159 rfl (Nat.le_of_ble_eq_true rfl) rfl rfl (h2 := mH _ _ _ _ _ _ _ _ _ _ _ _ _ _ _ _ _ _ _ _ _) rfl ?_
        refine mJ_aload_n dX8_readsForm_23 rfl ?_
        refine mJ_get dX8_readsForm_24 f_X8_172 rfl rfl ?_
        refine mJ_bipush (v := 116) dX8_readsForm_27 rfl ?_
        refine mJ_icmp_ne 36 dX8_readsForm_29 rfl (fun c_29 => ?_) (fun c_29 => False.elim (by exact absurd (hk.symm.trans c_29) (by decide)))
        refine mJ_iconst (v := 0) dX8_readsForm_36 rfl ?_
        refine mJ_istore_n dX8_readsForm_37 (Nat.le_of_ble_eq_true rfl) (ls2 := [_, _]) rfl ?_
        refine mJ_aload_n dX8_readsForm_38 rfl ?_
        refine mJ_get dX8_readsForm_39 f_X8_172 rfl rfl ?_
        refine mJ_bipush (v := 111) dX8_readsForm_42 rfl ?_
        refine mJ_icmp_eq 56 dX8_readsForm_44 rfl (fun c_44 => False.elim (by exact absurd (hk.symm.trans c_44) (by decide))) (fun c_44 => ?_)
        refine mJ_aload_n dX8_readsForm_47 rfl ?_
        refine mJ_get dX8_readsForm_48 f_X8_172 rfl rfl ?_
        refine mJ_bipush (v := 99) dX8_readsForm_51 rfl ?_
        refine mJ_icmp_ne 65 dX8_readsForm_53 rfl (fun c_53 => False.elim (by exact c_53 hk)) (fun c_53 => ?_)
        refine mJ_aload_n dX8_readsForm_56 rfl ?_
        refine mJ_iconst (v := 2) dX8_readsForm_57 rfl ?_
        refine mJ_cV1i dX8_readsForm_58 e_X8_readsNumber n_X8_169 ⟨Nat.le_of_ble_eq_true rfl, Nat.le_of_ble_eq_true rfl⟩ rfl rfl (Nat.le_of_ble_eq_true rfl) (C_X8_readsNumber hn (M := 2) (p := p + 1) (by omega) (by omega)) ?_
        refine mJ_top (b2i_t g1) ?_
        refine mJ_istore_n dX8_readsForm_61 (Nat.le_of_ble_eq_true rfl) (ls2 := [_, _]) rfl ?_
        refine mJ_goto 113 dX8_readsForm_62 rfl ?_
        refine mJ_iload_n dX8_readsForm_113 rfl ?_
        refine mJ_if_eq 130 dX8_readsForm_114 rfl (fun c => absurd c (by decide)) (fun _ => ?_)
        refine mJ_aload_n dX8_readsForm_117 rfl ?_
        refine mJ_bipush (v := 59) dX8_readsForm_118 rfl ?_
        refine mJ_cV1i dX8_readsForm_120 e_X8_passes n_X8_165 ⟨Nat.le_of_ble_eq_true rfl, Nat.le_of_ble_eq_true rfl⟩ rfl rfl (Nat.le_of_ble_eq_true rfl) (C_X8_passes_t hn (p := (p + 1 + (tC text n 2 (p + 1)))) (by decide) g2) ?_
        refine mJ_top (b2i_t g2) ?_
        refine mJ_if_eq 130 dX8_readsForm_123 rfl (fun c => absurd c (by decide)) (fun _ => ?_)
        refine mJ_iconst (v := 1) dX8_readsForm_126 rfl ?_
        refine mJ_goto 131 dX8_readsForm_127 rfl ?_
        exact mJ_zret dX8_readsForm_131 rfl (Or.inr rfl) (z_t (by rw [hx]; exact fun e => by cases e)) (rfl)
      · have hx : xO text n p = none := by
          rw [show xO text n p = _ from if_pos (Or.inl hk), if_neg (fun z => g2 z.2)]
        refine ⟨nI (p + 1 + (tC text n 2 (p + 1))), xS text n p, fst, (tV text n 2 (p + 1) 0), ?_, (fun k a b q e => by rw [hx] at e; cases e)⟩
        refine mCt_intro (plainFor_of_name rfl) (Nat.le_of_ble_eq_true rfl) (m_all rfl) (ls := [_, _]) rfl ?_
        refine mJ_aload_n dX8_readsForm_0 rfl ?_
        refine mJ_aload_n dX8_readsForm_1 rfl ?_
        refine mJ_get dX8_readsForm_2 f_X8_16 rfl rfl ?_
        refine mJ_aload_n dX8_readsForm_5 rfl ?_
        refine mJ_get dX8_readsForm_6 f_X8_159 rfl rfl ?_
        refine mJ_caldN dX8_readsForm_9 rfl (j := p) ⟨rfl, by omega, by decide⟩ ?_
        refine mJ_top hs0 ?_
        refine mJ_put dX8_readsForm_10 p_X8_172 rfl (Nat.le_of_ble_eq_true rfl) rfl rfl (h2 := mH _ _ _ _ _ _ _ _ _ _ _ _ _ _ _ _ _ _ _ _ _) rfl ?_
        refine mJ_aload_n dX8_readsForm_13 rfl ?_
        refine mJ_dup dX8_readsForm_14 rfl ?_
        refine mJ_get dX8_readsForm_15 f_X8_159 rfl rfl ?_
        refine mJ_iconst (v := 1) dX8_readsForm_18 rfl ?_
        refine mJ_iadd dX8_readsForm_19 ?_
        refine mJ_top (nI_1 p) ?_
        refine mJ_put dX8_readsForm_20 p_X8_159 rfl (Nat.le_of_ble_eq_true rfl) rfl rfl (h2 := mH _ _ _ _ _ _ _ _ _ _ _ _ _ _ _ _ _ _ _ _ _) rfl ?_
        refine mJ_aload_n dX8_readsForm_23 rfl ?_
        refine mJ_get dX8_readsForm_24 f_X8_172 rfl rfl ?_
        refine mJ_bipush (v := 116) dX8_readsForm_27 rfl ?_
        refine mJ_icmp_ne 36 dX8_readsForm_29 rfl (fun c_29 => ?_) (fun c_29 => False.elim (by exact absurd (hk.symm.trans c_29) (by decide)))
        refine mJ_iconst (v := 0) dX8_readsForm_36 rfl ?_
        refine mJ_istore_n dX8_readsForm_37 (Nat.le_of_ble_eq_true rfl) (ls2 := [_, _]) rfl ?_
        refine mJ_aload_n dX8_readsForm_38 rfl ?_
        refine mJ_get dX8_readsForm_39 f_X8_172 rfl rfl ?_
        refine mJ_bipush (v := 111) dX8_readsForm_42 rfl ?_
        refine mJ_icmp_eq 56 dX8_readsForm_44 rfl (fun c_44 => False.elim (by exact absurd (hk.symm.trans c_44) (by decide))) (fun c_44 => ?_)
        refine mJ_aload_n dX8_readsForm_47 rfl ?_
        refine mJ_get dX8_readsForm_48 f_X8_172 rfl rfl ?_
        refine mJ_bipush (v := 99) dX8_readsForm_51 rfl ?_
        refine mJ_icmp_ne 65 dX8_readsForm_53 rfl (fun c_53 => False.elim (by exact c_53 hk)) (fun c_53 => ?_)
        refine mJ_aload_n dX8_readsForm_56 rfl ?_
        refine mJ_iconst (v := 2) dX8_readsForm_57 rfl ?_
        refine mJ_cV1i dX8_readsForm_58 e_X8_readsNumber n_X8_169 ⟨Nat.le_of_ble_eq_true rfl, Nat.le_of_ble_eq_true rfl⟩ rfl rfl (Nat.le_of_ble_eq_true rfl) (C_X8_readsNumber hn (M := 2) (p := p + 1) (by omega) (by omega)) ?_
        refine mJ_top (b2i_t g1) ?_
        refine mJ_istore_n dX8_readsForm_61 (Nat.le_of_ble_eq_true rfl) (ls2 := [_, _]) rfl ?_
        refine mJ_goto 113 dX8_readsForm_62 rfl ?_
        refine mJ_iload_n dX8_readsForm_113 rfl ?_
        refine mJ_if_eq 130 dX8_readsForm_114 rfl (fun c => absurd c (by decide)) (fun _ => ?_)
        refine mJ_aload_n dX8_readsForm_117 rfl ?_
        refine mJ_bipush (v := 59) dX8_readsForm_118 rfl ?_
        refine mJ_cV1i dX8_readsForm_120 e_X8_passes n_X8_165 ⟨Nat.le_of_ble_eq_true rfl, Nat.le_of_ble_eq_true rfl⟩ rfl rfl (Nat.le_of_ble_eq_true rfl) (C_X8_passes_f hn (p := (p + 1 + (tC text n 2 (p + 1)))) (by have := tC_le text n 2 (p + 1); omega) g2) ?_
        refine mJ_top (b2i_f g2) ?_
        refine mJ_if_eq 130 dX8_readsForm_123 rfl (fun _ => ?_) (fun c => absurd c (by decide))
        refine mJ_iconst (v := 0) dX8_readsForm_130 rfl ?_
        exact mJ_zret dX8_readsForm_131 rfl (Or.inl rfl) (z_f (fun e => e hx)) (rfl)
    · have hx : xO text n p = none := by
        rw [show xO text n p = _ from if_pos (Or.inl hk), if_neg (fun z => g1 z.1)]
      refine ⟨nI (p + 1 + (tC text n 2 (p + 1))), xS text n p, fst, (tV text n 2 (p + 1) 0), ?_, (fun k a b q e => by rw [hx] at e; cases e)⟩
      refine mCt_intro (plainFor_of_name rfl) (Nat.le_of_ble_eq_true rfl) (m_all rfl) (ls := [_, _]) rfl ?_
      refine mJ_aload_n dX8_readsForm_0 rfl ?_
      refine mJ_aload_n dX8_readsForm_1 rfl ?_
      refine mJ_get dX8_readsForm_2 f_X8_16 rfl rfl ?_
      refine mJ_aload_n dX8_readsForm_5 rfl ?_
      refine mJ_get dX8_readsForm_6 f_X8_159 rfl rfl ?_
      refine mJ_caldN dX8_readsForm_9 rfl (j := p) ⟨rfl, by omega, by decide⟩ ?_
      refine mJ_top hs0 ?_
      refine mJ_put dX8_readsForm_10 p_X8_172 rfl (Nat.le_of_ble_eq_true rfl) rfl rfl (h2 := mH _ _ _ _ _ _ _ _ _ _ _ _ _ _ _ _ _ _ _ _ _) rfl ?_
      refine mJ_aload_n dX8_readsForm_13 rfl ?_
      refine mJ_dup dX8_readsForm_14 rfl ?_
      refine mJ_get dX8_readsForm_15 f_X8_159 rfl rfl ?_
      refine mJ_iconst (v := 1) dX8_readsForm_18 rfl ?_
      refine mJ_iadd dX8_readsForm_19 ?_
      refine mJ_top (nI_1 p) ?_
      refine mJ_put dX8_readsForm_20 p_X8_159 rfl (Nat.le_of_ble_eq_true rfl) rfl rfl (h2 := mH _ _ _ _ _ _ _ _ _ _ _ _ _ _ _ _ _ _ _ _ _) rfl ?_
      refine mJ_aload_n dX8_readsForm_23 rfl ?_
      refine mJ_get dX8_readsForm_24 f_X8_172 rfl rfl ?_
      refine mJ_bipush (v := 116) dX8_readsForm_27 rfl ?_
      refine mJ_icmp_ne 36 dX8_readsForm_29 rfl (fun c_29 => ?_) (fun c_29 => False.elim (by exact absurd (hk.symm.trans c_29) (by decide)))
      refine mJ_iconst (v := 0) dX8_readsForm_36 rfl ?_
      refine mJ_istore_n dX8_readsForm_37 (Nat.le_of_ble_eq_true rfl) (ls2 := [_, _]) rfl ?_
      refine mJ_aload_n dX8_readsForm_38 rfl ?_
      refine mJ_get dX8_readsForm_39 f_X8_172 rfl rfl ?_
      refine mJ_bipush (v := 111) dX8_readsForm_42 rfl ?_
      refine mJ_icmp_eq 56 dX8_readsForm_44 rfl (fun c_44 => False.elim (by exact absurd (hk.symm.trans c_44) (by decide))) (fun c_44 => ?_)
      refine mJ_aload_n dX8_readsForm_47 rfl ?_
      refine mJ_get dX8_readsForm_48 f_X8_172 rfl rfl ?_
      refine mJ_bipush (v := 99) dX8_readsForm_51 rfl ?_
      refine mJ_icmp_ne 65 dX8_readsForm_53 rfl (fun c_53 => False.elim (by exact c_53 hk)) (fun c_53 => ?_)
      refine mJ_aload_n dX8_readsForm_56 rfl ?_
      refine mJ_iconst (v := 2) dX8_readsForm_57 rfl ?_
      refine mJ_cV1i dX8_readsForm_58 e_X8_readsNumber n_X8_169 ⟨Nat.le_of_ble_eq_true rfl, Nat.le_of_ble_eq_true rfl⟩ rfl rfl (Nat.le_of_ble_eq_true rfl) (C_X8_readsNumber hn (M := 2) (p := p + 1) (by omega) (by omega)) ?_
      refine mJ_top (b2i_f g1) ?_
      refine mJ_istore_n dX8_readsForm_61 (Nat.le_of_ble_eq_true rfl) (ls2 := [_, _]) rfl ?_
      refine mJ_goto 113 dX8_readsForm_62 rfl ?_
      refine mJ_iload_n dX8_readsForm_113 rfl ?_
      refine mJ_if_eq 130 dX8_readsForm_114 rfl (fun _ => ?_) (fun c => absurd c (by decide))
      refine mJ_iconst (v := 0) dX8_readsForm_130 rfl ?_
      exact mJ_zret dX8_readsForm_131 rfl (Or.inl rfl) (z_f (fun e => e hx)) (rfl)
  · by_cases k2 : xS text n p = 111
    · have hk := k2
      by_cases g1 : 0 < (tC text n 2 (p + 1))
      · by_cases g2 : xS text n (p + 1 + (tC text n 2 (p + 1))) = 59
        · have hx : xO text n p = some (xS text n p, (tV text n 2 (p + 1) 0), 0, (p + 1 + (tC text n 2 (p + 1))) + 1) := by
            rw [show xO text n p = _ from if_pos (Or.inr hk), if_pos ⟨g1, g2⟩]
          refine ⟨nI ((p + 1 + (tC text n 2 (p + 1))) + 1), xS text n p, fst, (tV text n 2 (p + 1) 0), ?_, (fun k a b q e => by rw [hx] at e; cases e; exact ⟨rfl, rfl, fun _ => rfl, fun z => absurd (hk.symm.trans z) (by decide)⟩)⟩
          refine mCt_intro (plainFor_of_name rfl) (Nat.le_of_ble_eq_true rfl) (m_all rfl) (ls := [_, _]) rfl ?_
          refine mJ_aload_n dX8_readsForm_0 rfl ?_
          refine mJ_aload_n dX8_readsForm_1 rfl ?_
          refine mJ_get dX8_readsForm_2 f_X8_16 rfl rfl ?_
          refine mJ_aload_n dX8_readsForm_5 rfl ?_
          refine mJ_get dX8_readsForm_6 f_X8_159 rfl rfl ?_
          refine mJ_caldN dX8_readsForm_9 rfl (j := p) ⟨rfl, by omega, by decide⟩ ?_
          refine mJ_top hs0 ?_
          refine mJ_put dX8_readsForm_10 p_X8_172 rfl (Nat.le_of_ble_eq_true rfl) rfl rfl (h2 := mH _ _ _ _ _ _ _ _ _ _ _ _ _ _ _ _ _ _ _ _ _) rfl ?_
          refine mJ_aload_n dX8_readsForm_13 rfl ?_
          refine mJ_dup dX8_readsForm_14 rfl ?_
          refine mJ_get dX8_readsForm_15 f_X8_159 rfl rfl ?_
          refine mJ_iconst (v := 1) dX8_readsForm_18 rfl ?_
          refine mJ_iadd dX8_readsForm_19 ?_
          refine mJ_top (nI_1 p) ?_
          refine mJ_put dX8_readsForm_20 p_X8_159 rfl (Nat.le_of_ble_eq_true rfl) rfl rfl (h2 := mH _ _ _ _ _ _ _ _ _ _ _ _ _ _ _ _ _ _ _ _ _) rfl ?_
          refine mJ_aload_n dX8_readsForm_23 rfl ?_
          refine mJ_get dX8_readsForm_24 f_X8_172 rfl rfl ?_
          refine mJ_bipush (v := 116) dX8_readsForm_27 rfl ?_
          refine mJ_icmp_ne 36 dX8_readsForm_29 rfl (fun c_29 => ?_) (fun c_29 => False.elim (by exact absurd (hk.symm.trans c_29) (by decide)))
          refine mJ_iconst (v := 0) dX8_readsForm_36 rfl ?_
          refine mJ_istore_n dX8_readsForm_37 (Nat.le_of_ble_eq_true rfl) (ls2 := [_, _]) rfl ?_
          refine mJ_aload_n dX8_readsForm_38 rfl ?_
          refine mJ_get dX8_readsForm_39 f_X8_172 rfl rfl ?_
          refine mJ_bipush (v := 111) dX8_readsForm_42 rfl ?_
          refine mJ_icmp_eq 56 dX8_readsForm_44 rfl (fun c_44 => ?_) (fun c_44 => False.elim (by exact c_44 hk))
          refine mJ_aload_n dX8_readsForm_56 rfl ?_
          refine mJ_iconst (v := 2) dX8_readsForm_57 rfl ?_
          refine mJ_cV1i dX8_readsForm_58 e_X8_readsNumber n_X8_169 ⟨Nat.le_of_ble_eq_true rfl, Nat.le_of_ble_eq_true rfl⟩ rfl rfl (Nat.le_of_ble_eq_true rfl) (C_X8_readsNumber hn (M := 2) (p := p + 1) (by omega) (by omega)) ?_
          refine mJ_top (b2i_t g1) ?_
          refine mJ_istore_n dX8_readsForm_61 (Nat.le_of_ble_eq_true rfl) (ls2 := [_, _]) rfl ?_
          refine mJ_goto 113 dX8_readsForm_62 rfl ?_
          refine mJ_iload_n dX8_readsForm_113 rfl ?_
          refine mJ_if_eq 130 dX8_readsForm_114 rfl (fun c => absurd c (by decide)) (fun _ => ?_)
          refine mJ_aload_n dX8_readsForm_117 rfl ?_
          refine mJ_bipush (v := 59) dX8_readsForm_118 rfl ?_
          refine mJ_cV1i dX8_readsForm_120 e_X8_passes n_X8_165 ⟨Nat.le_of_ble_eq_true rfl, Nat.le_of_ble_eq_true rfl⟩ rfl rfl (Nat.le_of_ble_eq_true rfl) (C_X8_passes_t hn (p := (p + 1 + (tC text n 2 (p + 1)))) (by decide) g2) ?_
          refine mJ_top (b2i_t g2) ?_
          refine mJ_if_eq 130 dX8_readsForm_123 rfl (fun c => absurd c (by decide)) (fun _ => ?_)
          refine mJ_iconst (v := 1) dX8_readsForm_126 rfl ?_
          refine mJ_goto 131 dX8_readsForm_127 rfl ?_
          exact mJ_zret dX8_readsForm_131 rfl (Or.inr rfl) (z_t (by rw [hx]; exact fun e => by cases e)) (rfl)
        · have hx : xO text n p = none := by
            rw [show xO text n p = _ from if_pos (Or.inr hk), if_neg (fun z => g2 z.2)]
          refine ⟨nI (p + 1 + (tC text n 2 (p + 1))), xS text n p, fst, (tV text n 2 (p + 1) 0), ?_, (fun k a b q e => by rw [hx] at e; cases e)⟩
          refine mCt_intro (plainFor_of_name rfl) (Nat.le_of_ble_eq_true rfl) (m_all rfl) (ls := [_, _]) rfl ?_
          refine mJ_aload_n dX8_readsForm_0 rfl ?_
          refine mJ_aload_n dX8_readsForm_1 rfl ?_
          refine mJ_get dX8_readsForm_2 f_X8_16 rfl rfl ?_
          refine mJ_aload_n dX8_readsForm_5 rfl ?_
          refine mJ_get dX8_readsForm_6 f_X8_159 rfl rfl ?_
          refine mJ_caldN dX8_readsForm_9 rfl (j := p) ⟨rfl, by omega, by decide⟩ ?_
          refine mJ_top hs0 ?_
          refine mJ_put dX8_readsForm_10 p_X8_172 rfl (Nat.le_of_ble_eq_true rfl) rfl rfl (h2 := mH _ _ _ _ _ _ _ _ _ _ _ _ _ _ _ _ _ _ _ _ _) rfl ?_
          refine mJ_aload_n dX8_readsForm_13 rfl ?_
          refine mJ_dup dX8_readsForm_14 rfl ?_
          refine mJ_get dX8_readsForm_15 f_X8_159 rfl rfl ?_
          refine mJ_iconst (v := 1) dX8_readsForm_18 rfl ?_
          refine mJ_iadd dX8_readsForm_19 ?_
          refine mJ_top (nI_1 p) ?_
          refine mJ_put dX8_readsForm_20 p_X8_159 rfl (Nat.le_of_ble_eq_true rfl) rfl rfl (h2 := mH _ _ _ _ _ _ _ _ _ _ _ _ _ _ _ _ _ _ _ _ _) rfl ?_
          refine mJ_aload_n dX8_readsForm_23 rfl ?_
          refine mJ_get dX8_readsForm_24 f_X8_172 rfl rfl ?_
          refine mJ_bipush (v := 116) dX8_readsForm_27 rfl ?_
          refine mJ_icmp_ne 36 dX8_readsForm_29 rfl (fun c_29 => ?_) (fun c_29 => False.elim (by exact absurd (hk.symm.trans c_29) (by decide)))
          refine mJ_iconst (v := 0) dX8_readsForm_36 rfl ?_
          refine mJ_istore_n dX8_readsForm_37 (Nat.le_of_ble_eq_true rfl) (ls2 := [_, _]) rfl ?_
          refine mJ_aload_n dX8_readsForm_38 rfl ?_
          refine mJ_get dX8_readsForm_39 f_X8_172 rfl rfl ?_
          refine mJ_bipush (v := 111) dX8_readsForm_42 rfl ?_
          refine mJ_icmp_eq 56 dX8_readsForm_44 rfl (fun c_44 => ?_) (fun c_44 => False.elim (by exact c_44 hk))
          refine mJ_aload_n dX8_readsForm_56 rfl ?_
          refine mJ_iconst (v := 2) dX8_readsForm_57 rfl ?_
          refine mJ_cV1i dX8_readsForm_58 e_X8_readsNumber n_X8_169 ⟨Nat.le_of_ble_eq_true rfl, Nat.le_of_ble_eq_true rfl⟩ rfl rfl (Nat.le_of_ble_eq_true rfl) (C_X8_readsNumber hn (M := 2) (p := p + 1) (by omega) (by omega)) ?_
          refine mJ_top (b2i_t g1) ?_
          refine mJ_istore_n dX8_readsForm_61 (Nat.le_of_ble_eq_true rfl) (ls2 := [_, _]) rfl ?_
          refine mJ_goto 113 dX8_readsForm_62 rfl ?_
          refine mJ_iload_n dX8_readsForm_113 rfl ?_
          refine mJ_if_eq 130 dX8_readsForm_114 rfl (fun c => absurd c (by decide)) (fun _ => ?_)
          refine mJ_aload_n dX8_readsForm_117 rfl ?_
          refine mJ_bipush (v := 59) dX8_readsForm_118 rfl ?_
          refine mJ_cV1i dX8_readsForm_120 e_X8_passes n_X8_165 ⟨Nat.le_of_ble_eq_true rfl, Nat.le_of_ble_eq_true rfl⟩ rfl rfl (Nat.le_of_ble_eq_true rfl) (C_X8_passes_f hn (p := (p + 1 + (tC text n 2 (p + 1)))) (by have := tC_le text n 2 (p + 1); omega) g2) ?_
          refine mJ_top (b2i_f g2) ?_
          refine mJ_if_eq 130 dX8_readsForm_123 rfl (fun _ => ?_) (fun c => absurd c (by decide))
          refine mJ_iconst (v := 0) dX8_readsForm_130 rfl ?_
          exact mJ_zret dX8_readsForm_131 rfl (Or.inl rfl) (z_f (fun e => e hx)) (rfl)
      · have hx : xO text n p = none := by
          rw [show xO text n p = _ from if_pos (Or.inr hk), if_neg (fun z => g1 z.1)]
        refine ⟨nI (p + 1 + (tC text n 2 (p + 1))), xS text n p, fst, (tV text n 2 (p + 1) 0), ?_, (fun k a b q e => by rw [hx] at e; cases e)⟩
        refine mCt_intro (plainFor_of_name rfl) (Nat.le_of_ble_eq_true rfl) (m_all rfl) (ls := [_, _]) rfl ?_
        refine mJ_aload_n dX8_readsForm_0 rfl ?_
        refine mJ_aload_n dX8_readsForm_1 rfl ?_
        refine mJ_get dX8_readsForm_2 f_X8_16 rfl rfl ?_
        refine mJ_aload_n dX8_readsForm_5 rfl ?_
        refine mJ_get dX8_readsForm_6 f_X8_159 rfl rfl ?_
        refine mJ_caldN dX8_readsForm_9 rfl (j := p) ⟨rfl, by omega, by decide⟩ ?_
        refine mJ_top hs0 ?_
        refine mJ_put dX8_readsForm_10 p_X8_172 rfl (Nat.le_of_ble_eq_true rfl) rfl rfl (h2 := mH _ _ _ _ _ _ _ _ _ _ _ _ _ _ _ _ _ _ _ _ _) rfl ?_
        refine mJ_aload_n dX8_readsForm_13 rfl ?_
        refine mJ_dup dX8_readsForm_14 rfl ?_
        refine mJ_get dX8_readsForm_15 f_X8_159 rfl rfl ?_
        refine mJ_iconst (v := 1) dX8_readsForm_18 rfl ?_
        refine mJ_iadd dX8_readsForm_19 ?_
        refine mJ_top (nI_1 p) ?_
        refine mJ_put dX8_readsForm_20 p_X8_159 rfl (Nat.le_of_ble_eq_true rfl) rfl rfl (h2 := mH _ _ _ _ _ _ _ _ _ _ _ _ _ _ _ _ _ _ _ _ _) rfl ?_
        refine mJ_aload_n dX8_readsForm_23 rfl ?_
        refine mJ_get dX8_readsForm_24 f_X8_172 rfl rfl ?_
        refine mJ_bipush (v := 116) dX8_readsForm_27 rfl ?_
        refine mJ_icmp_ne 36 dX8_readsForm_29 rfl (fun c_29 => ?_) (fun c_29 => False.elim (by exact absurd (hk.symm.trans c_29) (by decide)))
        refine mJ_iconst (v := 0) dX8_readsForm_36 rfl ?_
        refine mJ_istore_n dX8_readsForm_37 (Nat.le_of_ble_eq_true rfl) (ls2 := [_, _]) rfl ?_
        refine mJ_aload_n dX8_readsForm_38 rfl ?_
        refine mJ_get dX8_readsForm_39 f_X8_172 rfl rfl ?_
        refine mJ_bipush (v := 111) dX8_readsForm_42 rfl ?_
        refine mJ_icmp_eq 56 dX8_readsForm_44 rfl (fun c_44 => ?_) (fun c_44 => False.elim (by exact c_44 hk))
        refine mJ_aload_n dX8_readsForm_56 rfl ?_
        refine mJ_iconst (v := 2) dX8_readsForm_57 rfl ?_
        refine mJ_cV1i dX8_readsForm_58 e_X8_readsNumber n_X8_169 ⟨Nat.le_of_ble_eq_true rfl, Nat.le_of_ble_eq_true rfl⟩ rfl rfl (Nat.le_of_ble_eq_true rfl) (C_X8_readsNumber hn (M := 2) (p := p + 1) (by omega) (by omega)) ?_
        refine mJ_top (b2i_f g1) ?_
        refine mJ_istore_n dX8_readsForm_61 (Nat.le_of_ble_eq_true rfl) (ls2 := [_, _]) rfl ?_
        refine mJ_goto 113 dX8_readsForm_62 rfl ?_
        refine mJ_iload_n dX8_readsForm_113 rfl ?_
        refine mJ_if_eq 130 dX8_readsForm_114 rfl (fun _ => ?_) (fun c => absurd c (by decide))
        refine mJ_iconst (v := 0) dX8_readsForm_130 rfl ?_
        exact mJ_zret dX8_readsForm_131 rfl (Or.inl rfl) (z_f (fun e => e hx)) (rfl)
    · by_cases k3 : xS text n p = 118
      · have hk := k3
        by_cases g1 : 0 < (tSg text n (p + 1)).1
        · by_cases g2 : xS text n (tSg text n (p + 1)).2.2 = 44
          · by_cases g3 : 0 < (tSg text n ((tSg text n (p + 1)).2.2 + 1)).1
            · by_cases g4 : xS text n (tSg text n ((tSg text n (p + 1)).2.2 + 1)).2.2 = 59
              · have hx : xO text n p = some (118, (tSg text n (p + 1)).2.1, (tSg text n ((tSg text n (p + 1)).2.2 + 1)).2.1, (tSg text n ((tSg text n (p + 1)).2.2 + 1)).2.2 + 1) := by
                  rw [show xO text n p = _ from if_neg (fun z => z.elim k1 k2), if_pos hk, if_pos ⟨g1, g2, g3, g4⟩]
                refine ⟨nI ((tSg text n ((tSg text n (p + 1)).2.2 + 1)).2.2 + 1), xS text n p, (tSg text n (p + 1)).2.1, (tSg text n ((tSg text n (p + 1)).2.2 + 1)).2.1, ?_, (fun k a b q e => by rw [hx] at e; cases e; exact ⟨rfl, hk, fun z => absurd rfl z.2, fun _ => ⟨rfl, rfl⟩⟩)⟩
                refine mCt_intro (plainFor_of_name rfl) (Nat.le_of_ble_eq_true rfl) (m_all rfl) (ls := [_, _]) rfl ?_
                refine mJ_aload_n dX8_readsForm_0 rfl ?_
                refine mJ_aload_n dX8_readsForm_1 rfl ?_
                refine mJ_get dX8_readsForm_2 f_X8_16 rfl rfl ?_
                refine mJ_aload_n dX8_readsForm_5 rfl ?_
                refine mJ_get dX8_readsForm_6 f_X8_159 rfl rfl ?_
                refine mJ_caldN dX8_readsForm_9 rfl (j := p) ⟨rfl, by omega, by decide⟩ ?_
                refine mJ_top hs0 ?_
                refine mJ_put dX8_readsForm_10 p_X8_172 rfl (Nat.le_of_ble_eq_true rfl) rfl rfl (h2 := mH _ _ _ _ _ _ _ _ _ _ _ _ _ _ _ _ _ _ _ _ _) rfl ?_
                refine mJ_aload_n dX8_readsForm_13 rfl ?_
                refine mJ_dup dX8_readsForm_14 rfl ?_
                refine mJ_get dX8_readsForm_15 f_X8_159 rfl rfl ?_
                refine mJ_iconst (v := 1) dX8_readsForm_18 rfl ?_
                refine mJ_iadd dX8_readsForm_19 ?_
                refine mJ_top (nI_1 p) ?_
                refine mJ_put dX8_readsForm_20 p_X8_159 rfl (Nat.le_of_ble_eq_true rfl) rfl rfl (h2 := mH _ _ _ _ _ _ _ _ _ _ _ _ _ _ _ _ _ _ _ _ _) rfl ?_
                refine mJ_aload_n dX8_readsForm_23 rfl ?_
                refine mJ_get dX8_readsForm_24 f_X8_172 rfl rfl ?_
                refine mJ_bipush (v := 116) dX8_readsForm_27 rfl ?_
                refine mJ_icmp_ne 36 dX8_readsForm_29 rfl (fun c_29 => ?_) (fun c_29 => False.elim (by exact absurd (hk.symm.trans c_29) (by decide)))
                refine mJ_iconst (v := 0) dX8_readsForm_36 rfl ?_
                refine mJ_istore_n dX8_readsForm_37 (Nat.le_of_ble_eq_true rfl) (ls2 := [_, _]) rfl ?_
                refine mJ_aload_n dX8_readsForm_38 rfl ?_
                refine mJ_get dX8_readsForm_39 f_X8_172 rfl rfl ?_
                refine mJ_bipush (v := 111) dX8_readsForm_42 rfl ?_
                refine mJ_icmp_eq 56 dX8_readsForm_44 rfl (fun c_44 => False.elim (by exact k2 c_44)) (fun c_44 => ?_)
                refine mJ_aload_n dX8_readsForm_47 rfl ?_
                refine mJ_get dX8_readsForm_48 f_X8_172 rfl rfl ?_
                refine mJ_bipush (v := 99) dX8_readsForm_51 rfl ?_
                refine mJ_icmp_ne 65 dX8_readsForm_53 rfl (fun c_53 => ?_) (fun c_53 => False.elim (by exact k1 c_53))
                refine mJ_aload_n dX8_readsForm_65 rfl ?_
                refine mJ_get dX8_readsForm_66 f_X8_172 rfl rfl ?_
                refine mJ_bipush (v := 118) dX8_readsForm_69 rfl ?_
                refine mJ_icmp_ne 113 dX8_readsForm_71 rfl (fun c_71 => False.elim (by exact c_71 hk)) (fun c_71 => ?_)
                refine mJ_aload_n dX8_readsForm_74 rfl ?_
                refine mJ_cV0i dX8_readsForm_75 e_X8_readsSigned n_X8_175 ⟨Nat.le_of_ble_eq_true rfl, Nat.le_of_ble_eq_true rfl⟩ rfl rfl (Nat.le_of_ble_eq_true rfl) (C_X8_readsSigned hn (p := p + 1) (by omega)) ?_
                refine mJ_top (b2i_t g1) ?_
                refine mJ_istore_n dX8_readsForm_78 (Nat.le_of_ble_eq_true rfl) (ls2 := [_, _]) rfl ?_
                refine mJ_aload_n dX8_readsForm_79 rfl ?_
                refine mJ_aload_n dX8_readsForm_80 rfl ?_
                refine mJ_get dX8_readsForm_81 f_X8_162 rfl rfl ?_
                refine mJ_put dX8_readsForm_84 p_X8_179 rfl (Nat.le_of_ble_eq_true rfl) rfl rfl (h2 := mH _ _ _ _ _ _ _ _ _ _ _ _ _ _ _ _ _ _ _ _ _) rfl ?_
                refine mJ_iload_n dX8_readsForm_87 rfl ?_
                refine mJ_if_eq 111 dX8_readsForm_88 rfl (fun c => absurd c (by decide)) (fun _ => ?_)
                refine mJ_aload_n dX8_readsForm_91 rfl ?_
                refine mJ_bipush (v := 44) dX8_readsForm_92 rfl ?_
                refine mJ_cV1i dX8_readsForm_94 e_X8_passes n_X8_165 ⟨Nat.le_of_ble_eq_true rfl, Nat.le_of_ble_eq_true rfl⟩ rfl rfl (Nat.le_of_ble_eq_true rfl) (C_X8_passes_t hn (p := (tSg text n (p + 1)).2.2) (by decide) g2) ?_
                refine mJ_top (b2i_t g2) ?_
                refine mJ_if_eq 111 dX8_readsForm_97 rfl (fun c => absurd c (by decide)) (fun _ => ?_)
                refine mJ_aload_n dX8_readsForm_100 rfl ?_
                refine mJ_cV0i dX8_readsForm_101 e_X8_readsSigned n_X8_175 ⟨Nat.le_of_ble_eq_true rfl, Nat.le_of_ble_eq_true rfl⟩ rfl rfl (Nat.le_of_ble_eq_true rfl) (C_X8_readsSigned hn (p := (tSg text n (p + 1)).2.2 + 1) (by have := tSg_le text n (p + 1); omega)) ?_
                refine mJ_top (b2i_t g3) ?_
                refine mJ_if_eq 111 dX8_readsForm_104 rfl (fun c => absurd c (by decide)) (fun _ => ?_)
                refine mJ_iconst (v := 1) dX8_readsForm_107 rfl ?_
                refine mJ_goto 112 dX8_readsForm_108 rfl ?_
                refine mJ_istore_n dX8_readsForm_112 (Nat.le_of_ble_eq_true rfl) (ls2 := [_, _]) rfl ?_
                refine mJ_iload_n dX8_readsForm_113 rfl ?_
                refine mJ_if_eq 130 dX8_readsForm_114 rfl (fun c => absurd c (by decide)) (fun _ => ?_)
                refine mJ_aload_n dX8_readsForm_117 rfl ?_
                refine mJ_bipush (v := 59) dX8_readsForm_118 rfl ?_
                refine mJ_cV1i dX8_readsForm_120 e_X8_passes n_X8_165 ⟨Nat.le_of_ble_eq_true rfl, Nat.le_of_ble_eq_true rfl⟩ rfl rfl (Nat.le_of_ble_eq_true rfl) (C_X8_passes_t hn (p := (tSg text n ((tSg text n (p + 1)).2.2 + 1)).2.2) (by decide) g4) ?_
                refine mJ_top (b2i_t g4) ?_
                refine mJ_if_eq 130 dX8_readsForm_123 rfl (fun c => absurd c (by decide)) (fun _ => ?_)
                refine mJ_iconst (v := 1) dX8_readsForm_126 rfl ?_
                refine mJ_goto 131 dX8_readsForm_127 rfl ?_
                exact mJ_zret dX8_readsForm_131 rfl (Or.inr rfl) (z_t (by rw [hx]; exact fun e => by cases e)) (rfl)
              · have hx : xO text n p = none := by
                  rw [show xO text n p = _ from if_neg (fun z => z.elim k1 k2), if_pos hk, if_neg (fun z => g4 z.2.2.2)]
                refine ⟨nI (tSg text n ((tSg text n (p + 1)).2.2 + 1)).2.2, xS text n p, (tSg text n (p + 1)).2.1, (tSg text n ((tSg text n (p + 1)).2.2 + 1)).2.1, ?_, (fun k a b q e => by rw [hx] at e; cases e)⟩
                refine mCt_intro (plainFor_of_name rfl) (Nat.le_of_ble_eq_true rfl) (m_all rfl) (ls := [_, _]) rfl ?_
                refine mJ_aload_n dX8_readsForm_0 rfl ?_
                refine mJ_aload_n dX8_readsForm_1 rfl ?_
                refine mJ_get dX8_readsForm_2 f_X8_16 rfl rfl ?_
                refine mJ_aload_n dX8_readsForm_5 rfl ?_
                refine mJ_get dX8_readsForm_6 f_X8_159 rfl rfl ?_
                refine mJ_caldN dX8_readsForm_9 rfl (j := p) ⟨rfl, by omega, by decide⟩ ?_
                refine mJ_top hs0 ?_
                refine mJ_put dX8_readsForm_10 p_X8_172 rfl (Nat.le_of_ble_eq_true rfl) rfl rfl (h2 := mH _ _ _ _ _ _ _ _ _ _ _ _ _ _ _ _ _ _ _ _ _) rfl ?_
                refine mJ_aload_n dX8_readsForm_13 rfl ?_
                refine mJ_dup dX8_readsForm_14 rfl ?_
                refine mJ_get dX8_readsForm_15 f_X8_159 rfl rfl ?_
                refine mJ_iconst (v := 1) dX8_readsForm_18 rfl ?_
                refine mJ_iadd dX8_readsForm_19 ?_
                refine mJ_top (nI_1 p) ?_
                refine mJ_put dX8_readsForm_20 p_X8_159 rfl (Nat.le_of_ble_eq_true rfl) rfl rfl (h2 := mH _ _ _ _ _ _ _ _ _ _ _ _ _ _ _ _ _ _ _ _ _) rfl ?_
                refine mJ_aload_n dX8_readsForm_23 rfl ?_
                refine mJ_get dX8_readsForm_24 f_X8_172 rfl rfl ?_
                refine mJ_bipush (v := 116) dX8_readsForm_27 rfl ?_
                refine mJ_icmp_ne 36 dX8_readsForm_29 rfl (fun c_29 => ?_) (fun c_29 => False.elim (by exact absurd (hk.symm.trans c_29) (by decide)))
                refine mJ_iconst (v := 0) dX8_readsForm_36 rfl ?_
                refine mJ_istore_n dX8_readsForm_37 (Nat.le_of_ble_eq_true rfl) (ls2 := [_, _]) rfl ?_
                refine mJ_aload_n dX8_readsForm_38 rfl ?_
                refine mJ_get dX8_readsForm_39 f_X8_172 rfl rfl ?_
                refine mJ_bipush (v := 111) dX8_readsForm_42 rfl ?_
                refine mJ_icmp_eq 56 dX8_readsForm_44 rfl (fun c_44 => False.elim (by exact k2 c_44)) (fun c_44 => ?_)
                refine mJ_aload_n dX8_readsForm_47 rfl ?_
                refine mJ_get dX8_readsForm_48 f_X8_172 rfl rfl ?_
                refine mJ_bipush (v := 99) dX8_readsForm_51 rfl ?_
                refine mJ_icmp_ne 65 dX8_readsForm_53 rfl (fun c_53 => ?_) (fun c_53 => False.elim (by exact k1 c_53))
                refine mJ_aload_n dX8_readsForm_65 rfl ?_
                refine mJ_get dX8_readsForm_66 f_X8_172 rfl rfl ?_
                refine mJ_bipush (v := 118) dX8_readsForm_69 rfl ?_
                refine mJ_icmp_ne 113 dX8_readsForm_71 rfl (fun c_71 => False.elim (by exact c_71 hk)) (fun c_71 => ?_)
                refine mJ_aload_n dX8_readsForm_74 rfl ?_
                refine mJ_cV0i dX8_readsForm_75 e_X8_readsSigned n_X8_175 ⟨Nat.le_of_ble_eq_true rfl, Nat.le_of_ble_eq_true rfl⟩ rfl rfl (Nat.le_of_ble_eq_true rfl) (C_X8_readsSigned hn (p := p + 1) (by omega)) ?_
                refine mJ_top (b2i_t g1) ?_
                refine mJ_istore_n dX8_readsForm_78 (Nat.le_of_ble_eq_true rfl) (ls2 := [_, _]) rfl ?_
                refine mJ_aload_n dX8_readsForm_79 rfl ?_
                refine mJ_aload_n dX8_readsForm_80 rfl ?_
                refine mJ_get dX8_readsForm_81 f_X8_162 rfl rfl ?_
                refine mJ_put dX8_readsForm_84 p_X8_179 rfl (Nat.le_of_ble_eq_true rfl) rfl rfl (h2 := mH _ _ _ _ _ _ _ _ _ _ _ _ _ _ _ _ _ _ _ _ _) rfl ?_
                refine mJ_iload_n dX8_readsForm_87 rfl ?_
                refine mJ_if_eq 111 dX8_readsForm_88 rfl (fun c => absurd c (by decide)) (fun _ => ?_)
                refine mJ_aload_n dX8_readsForm_91 rfl ?_
                refine mJ_bipush (v := 44) dX8_readsForm_92 rfl ?_
                refine mJ_cV1i dX8_readsForm_94 e_X8_passes n_X8_165 ⟨Nat.le_of_ble_eq_true rfl, Nat.le_of_ble_eq_true rfl⟩ rfl rfl (Nat.le_of_ble_eq_true rfl) (C_X8_passes_t hn (p := (tSg text n (p + 1)).2.2) (by decide) g2) ?_
                refine mJ_top (b2i_t g2) ?_
                refine mJ_if_eq 111 dX8_readsForm_97 rfl (fun c => absurd c (by decide)) (fun _ => ?_)
                refine mJ_aload_n dX8_readsForm_100 rfl ?_
                refine mJ_cV0i dX8_readsForm_101 e_X8_readsSigned n_X8_175 ⟨Nat.le_of_ble_eq_true rfl, Nat.le_of_ble_eq_true rfl⟩ rfl rfl (Nat.le_of_ble_eq_true rfl) (C_X8_readsSigned hn (p := (tSg text n (p + 1)).2.2 + 1) (by have := tSg_le text n (p + 1); omega)) ?_
                refine mJ_top (b2i_t g3) ?_
                refine mJ_if_eq 111 dX8_readsForm_104 rfl (fun c => absurd c (by decide)) (fun _ => ?_)
                refine mJ_iconst (v := 1) dX8_readsForm_107 rfl ?_
                refine mJ_goto 112 dX8_readsForm_108 rfl ?_
                refine mJ_istore_n dX8_readsForm_112 (Nat.le_of_ble_eq_true rfl) (ls2 := [_, _]) rfl ?_
                refine mJ_iload_n dX8_readsForm_113 rfl ?_
                refine mJ_if_eq 130 dX8_readsForm_114 rfl (fun c => absurd c (by decide)) (fun _ => ?_)
                refine mJ_aload_n dX8_readsForm_117 rfl ?_
                refine mJ_bipush (v := 59) dX8_readsForm_118 rfl ?_
                refine mJ_cV1i dX8_readsForm_120 e_X8_passes n_X8_165 ⟨Nat.le_of_ble_eq_true rfl, Nat.le_of_ble_eq_true rfl⟩ rfl rfl (Nat.le_of_ble_eq_true rfl) (C_X8_passes_f hn (p := (tSg text n ((tSg text n (p + 1)).2.2 + 1)).2.2) (by have := tSg_le text n (p + 1); have := tSg_le text n ((tSg text n (p + 1)).2.2 + 1); omega) g4) ?_
                refine mJ_top (b2i_f g4) ?_
                refine mJ_if_eq 130 dX8_readsForm_123 rfl (fun _ => ?_) (fun c => absurd c (by decide))
                refine mJ_iconst (v := 0) dX8_readsForm_130 rfl ?_
                exact mJ_zret dX8_readsForm_131 rfl (Or.inl rfl) (z_f (fun e => e hx)) (rfl)
            · have hx : xO text n p = none := by
                rw [show xO text n p = _ from if_neg (fun z => z.elim k1 k2), if_pos hk, if_neg (fun z => g3 z.2.2.1)]
              refine ⟨nI (tSg text n ((tSg text n (p + 1)).2.2 + 1)).2.2, xS text n p, (tSg text n (p + 1)).2.1, (tSg text n ((tSg text n (p + 1)).2.2 + 1)).2.1, ?_, (fun k a b q e => by rw [hx] at e; cases e)⟩
              refine mCt_intro (plainFor_of_name rfl) (Nat.le_of_ble_eq_true rfl) (m_all rfl) (ls := [_, _]) rfl ?_
              refine mJ_aload_n dX8_readsForm_0 rfl ?_
              refine mJ_aload_n dX8_readsForm_1 rfl ?_
              refine mJ_get dX8_readsForm_2 f_X8_16 rfl rfl ?_
              refine mJ_aload_n dX8_readsForm_5 rfl ?_
              refine mJ_get dX8_readsForm_6 f_X8_159 rfl rfl ?_
              refine mJ_caldN dX8_readsForm_9 rfl (j := p) ⟨rfl, by omega, by decide⟩ ?_
              refine mJ_top hs0 ?_
              refine mJ_put dX8_readsForm_10 p_X8_172 rfl (Nat.le_of_ble_eq_true rfl) rfl rfl (h2 := mH _ _ _ _ _ _ _ _ _ _ _ _ _ _ _ _ _ _ _ _ _) rfl ?_
              refine mJ_aload_n dX8_readsForm_13 rfl ?_
              refine mJ_dup dX8_readsForm_14 rfl ?_
              refine mJ_get dX8_readsForm_15 f_X8_159 rfl rfl ?_
              refine mJ_iconst (v := 1) dX8_readsForm_18 rfl ?_
              refine mJ_iadd dX8_readsForm_19 ?_
              refine mJ_top (nI_1 p) ?_
              refine mJ_put dX8_readsForm_20 p_X8_159 rfl (Nat.le_of_ble_eq_true rfl) rfl rfl (h2 := mH _ _ _ _ _ _ _ _ _ _ _ _ _ _ _ _ _ _ _ _ _) rfl ?_
              refine mJ_aload_n dX8_readsForm_23 rfl ?_
              refine mJ_get dX8_readsForm_24 f_X8_172 rfl rfl ?_
              refine mJ_bipush (v := 116) dX8_readsForm_27 rfl ?_
              refine mJ_icmp_ne 36 dX8_readsForm_29 rfl (fun c_29 => ?_) (fun c_29 => False.elim (by exact absurd (hk.symm.trans c_29) (by decide)))
              refine mJ_iconst (v := 0) dX8_readsForm_36 rfl ?_
              refine mJ_istore_n dX8_readsForm_37 (Nat.le_of_ble_eq_true rfl) (ls2 := [_, _]) rfl ?_
              refine mJ_aload_n dX8_readsForm_38 rfl ?_
              refine mJ_get dX8_readsForm_39 f_X8_172 rfl rfl ?_
              refine mJ_bipush (v := 111) dX8_readsForm_42 rfl ?_
              refine mJ_icmp_eq 56 dX8_readsForm_44 rfl (fun c_44 => False.elim (by exact k2 c_44)) (fun c_44 => ?_)
              refine mJ_aload_n dX8_readsForm_47 rfl ?_
              refine mJ_get dX8_readsForm_48 f_X8_172 rfl rfl ?_
              refine mJ_bipush (v := 99) dX8_readsForm_51 rfl ?_
              refine mJ_icmp_ne 65 dX8_readsForm_53 rfl (fun c_53 => ?_) (fun c_53 => False.elim (by exact k1 c_53))
              refine mJ_aload_n dX8_readsForm_65 rfl ?_
              refine mJ_get dX8_readsForm_66 f_X8_172 rfl rfl ?_
              refine mJ_bipush (v := 118) dX8_readsForm_69 rfl ?_
              refine mJ_icmp_ne 113 dX8_readsForm_71 rfl (fun c_71 => False.elim (by exact c_71 hk)) (fun c_71 => ?_)
              refine mJ_aload_n dX8_readsForm_74 rfl ?_
              refine mJ_cV0i dX8_readsForm_75 e_X8_readsSigned n_X8_175 ⟨Nat.le_of_ble_eq_true rfl, Nat.le_of_ble_eq_true rfl⟩ rfl rfl (Nat.le_of_ble_eq_true rfl) (C_X8_readsSigned hn (p := p + 1) (by omega)) ?_
              refine mJ_top (b2i_t g1) ?_
              refine mJ_istore_n dX8_readsForm_78 (Nat.le_of_ble_eq_true rfl) (ls2 := [_, _]) rfl ?_
              refine mJ_aload_n dX8_readsForm_79 rfl ?_
              refine mJ_aload_n dX8_readsForm_80 rfl ?_
              refine mJ_get dX8_readsForm_81 f_X8_162 rfl rfl ?_
              refine mJ_put dX8_readsForm_84 p_X8_179 rfl (Nat.le_of_ble_eq_true rfl) rfl rfl (h2 := mH _ _ _ _ _ _ _ _ _ _ _ _ _ _ _ _ _ _ _ _ _) rfl ?_
              refine mJ_iload_n dX8_readsForm_87 rfl ?_
              refine mJ_if_eq 111 dX8_readsForm_88 rfl (fun c => absurd c (by decide)) (fun _ => ?_)
              refine mJ_aload_n dX8_readsForm_91 rfl ?_
              refine mJ_bipush (v := 44) dX8_readsForm_92 rfl ?_
              refine mJ_cV1i dX8_readsForm_94 e_X8_passes n_X8_165 ⟨Nat.le_of_ble_eq_true rfl, Nat.le_of_ble_eq_true rfl⟩ rfl rfl (Nat.le_of_ble_eq_true rfl) (C_X8_passes_t hn (p := (tSg text n (p + 1)).2.2) (by decide) g2) ?_
              refine mJ_top (b2i_t g2) ?_
              refine mJ_if_eq 111 dX8_readsForm_97 rfl (fun c => absurd c (by decide)) (fun _ => ?_)
              refine mJ_aload_n dX8_readsForm_100 rfl ?_
              refine mJ_cV0i dX8_readsForm_101 e_X8_readsSigned n_X8_175 ⟨Nat.le_of_ble_eq_true rfl, Nat.le_of_ble_eq_true rfl⟩ rfl rfl (Nat.le_of_ble_eq_true rfl) (C_X8_readsSigned hn (p := (tSg text n (p + 1)).2.2 + 1) (by have := tSg_le text n (p + 1); omega)) ?_
              refine mJ_top (b2i_f g3) ?_
              refine mJ_if_eq 111 dX8_readsForm_104 rfl (fun _ => ?_) (fun c => absurd c (by decide))
              refine mJ_iconst (v := 0) dX8_readsForm_111 rfl ?_
              refine mJ_istore_n dX8_readsForm_112 (Nat.le_of_ble_eq_true rfl) (ls2 := [_, _]) rfl ?_
              refine mJ_iload_n dX8_readsForm_113 rfl ?_
              refine mJ_if_eq 130 dX8_readsForm_114 rfl (fun _ => ?_) (fun c => absurd c (by decide))
              refine mJ_iconst (v := 0) dX8_readsForm_130 rfl ?_
              exact mJ_zret dX8_readsForm_131 rfl (Or.inl rfl) (z_f (fun e => e hx)) (rfl)
          · have hx : xO text n p = none := by
              rw [show xO text n p = _ from if_neg (fun z => z.elim k1 k2), if_pos hk, if_neg (fun z => g2 z.2.1)]
            refine ⟨nI (tSg text n (p + 1)).2.2, xS text n p, (tSg text n (p + 1)).2.1, (tSg text n (p + 1)).2.1, ?_, (fun k a b q e => by rw [hx] at e; cases e)⟩
            refine mCt_intro (plainFor_of_name rfl) (Nat.le_of_ble_eq_true rfl) (m_all rfl) (ls := [_, _]) rfl ?_
            refine mJ_aload_n dX8_readsForm_0 rfl ?_
            refine mJ_aload_n dX8_readsForm_1 rfl ?_
            refine mJ_get dX8_readsForm_2 f_X8_16 rfl rfl ?_
            refine mJ_aload_n dX8_readsForm_5 rfl ?_
            refine mJ_get dX8_readsForm_6 f_X8_159 rfl rfl ?_
            refine mJ_caldN dX8_readsForm_9 rfl (j := p) ⟨rfl, by omega, by decide⟩ ?_
            refine mJ_top hs0 ?_
            refine mJ_put dX8_readsForm_10 p_X8_172 rfl (Nat.le_of_ble_eq_true rfl) rfl rfl (h2 := mH _ _ _ _ _ _ _ _ _ _ _ _ _ _ _ _ _ _ _ _ _) rfl ?_
            refine mJ_aload_n dX8_readsForm_13 rfl ?_
            refine mJ_dup dX8_readsForm_14 rfl ?_
            refine mJ_get dX8_readsForm_15 f_X8_159 rfl rfl ?_
            refine mJ_iconst (v := 1) dX8_readsForm_18 rfl ?_
            refine mJ_iadd dX8_readsForm_19 ?_
            refine mJ_top (nI_1 p) ?_
            refine mJ_put dX8_readsForm_20 p_X8_159 rfl (Nat.le_of_ble_eq_true rfl) rfl rfl (h2 := mH _ _ _ _ _ _ _ _ _ _ _ _ _ _ _ _ _ _ _ _ _) rfl ?_
            refine mJ_aload_n dX8_readsForm_23 rfl ?_
            refine mJ_get dX8_readsForm_24 f_X8_172 rfl rfl ?_
            refine mJ_bipush (v := 116) dX8_readsForm_27 rfl ?_
            refine mJ_icmp_ne 36 dX8_readsForm_29 rfl (fun c_29 => ?_) (fun c_29 => False.elim (by exact absurd (hk.symm.trans c_29) (by decide)))
            refine mJ_iconst (v := 0) dX8_readsForm_36 rfl ?_
            refine mJ_istore_n dX8_readsForm_37 (Nat.le_of_ble_eq_true rfl) (ls2 := [_, _]) rfl ?_
            refine mJ_aload_n dX8_readsForm_38 rfl ?_
            refine mJ_get dX8_readsForm_39 f_X8_172 rfl rfl ?_
            refine mJ_bipush (v := 111) dX8_readsForm_42 rfl ?_
            refine mJ_icmp_eq 56 dX8_readsForm_44 rfl (fun c_44 => False.elim (by exact k2 c_44)) (fun c_44 => ?_)
            refine mJ_aload_n dX8_readsForm_47 rfl ?_
            refine mJ_get dX8_readsForm_48 f_X8_172 rfl rfl ?_
            refine mJ_bipush (v := 99) dX8_readsForm_51 rfl ?_
            refine mJ_icmp_ne 65 dX8_readsForm_53 rfl (fun c_53 => ?_) (fun c_53 => False.elim (by exact k1 c_53))
            refine mJ_aload_n dX8_readsForm_65 rfl ?_
            refine mJ_get dX8_readsForm_66 f_X8_172 rfl rfl ?_
            refine mJ_bipush (v := 118) dX8_readsForm_69 rfl ?_
            refine mJ_icmp_ne 113 dX8_readsForm_71 rfl (fun c_71 => False.elim (by exact c_71 hk)) (fun c_71 => ?_)
            refine mJ_aload_n dX8_readsForm_74 rfl ?_
            refine mJ_cV0i dX8_readsForm_75 e_X8_readsSigned n_X8_175 ⟨Nat.le_of_ble_eq_true rfl, Nat.le_of_ble_eq_true rfl⟩ rfl rfl (Nat.le_of_ble_eq_true rfl) (C_X8_readsSigned hn (p := p + 1) (by omega)) ?_
            refine mJ_top (b2i_t g1) ?_
            refine mJ_istore_n dX8_readsForm_78 (Nat.le_of_ble_eq_true rfl) (ls2 := [_, _]) rfl ?_
            refine mJ_aload_n dX8_readsForm_79 rfl ?_
            refine mJ_aload_n dX8_readsForm_80 rfl ?_
            refine mJ_get dX8_readsForm_81 f_X8_162 rfl rfl ?_
            refine mJ_put dX8_readsForm_84 p_X8_179 rfl (Nat.le_of_ble_eq_true rfl) rfl rfl (h2 := mH _ _ _ _ _ _ _ _ _ _ _ _ _ _ _ _ _ _ _ _ _) rfl ?_
            refine mJ_iload_n dX8_readsForm_87 rfl ?_
            refine mJ_if_eq 111 dX8_readsForm_88 rfl (fun c => absurd c (by decide)) (fun _ => ?_)
            refine mJ_aload_n dX8_readsForm_91 rfl ?_
            refine mJ_bipush (v := 44) dX8_readsForm_92 rfl ?_
            refine mJ_cV1i dX8_readsForm_94 e_X8_passes n_X8_165 ⟨Nat.le_of_ble_eq_true rfl, Nat.le_of_ble_eq_true rfl⟩ rfl rfl (Nat.le_of_ble_eq_true rfl) (C_X8_passes_f hn (p := (tSg text n (p + 1)).2.2) (by have := tSg_le text n (p + 1); omega) g2) ?_
            refine mJ_top (b2i_f g2) ?_
            refine mJ_if_eq 111 dX8_readsForm_97 rfl (fun _ => ?_) (fun c => absurd c (by decide))
            refine mJ_iconst (v := 0) dX8_readsForm_111 rfl ?_
            refine mJ_istore_n dX8_readsForm_112 (Nat.le_of_ble_eq_true rfl) (ls2 := [_, _]) rfl ?_
            refine mJ_iload_n dX8_readsForm_113 rfl ?_
            refine mJ_if_eq 130 dX8_readsForm_114 rfl (fun _ => ?_) (fun c => absurd c (by decide))
            refine mJ_iconst (v := 0) dX8_readsForm_130 rfl ?_
            exact mJ_zret dX8_readsForm_131 rfl (Or.inl rfl) (z_f (fun e => e hx)) (rfl)
        · have hx : xO text n p = none := by
            rw [show xO text n p = _ from if_neg (fun z => z.elim k1 k2), if_pos hk, if_neg (fun z => g1 z.1)]
          refine ⟨nI (tSg text n (p + 1)).2.2, xS text n p, (tSg text n (p + 1)).2.1, (tSg text n (p + 1)).2.1, ?_, (fun k a b q e => by rw [hx] at e; cases e)⟩
          refine mCt_intro (plainFor_of_name rfl) (Nat.le_of_ble_eq_true rfl) (m_all rfl) (ls := [_, _]) rfl ?_
          refine mJ_aload_n dX8_readsForm_0 rfl ?_
          refine mJ_aload_n dX8_readsForm_1 rfl ?_
          refine mJ_get dX8_readsForm_2 f_X8_16 rfl rfl ?_
          refine mJ_aload_n dX8_readsForm_5 rfl ?_
          refine mJ_get dX8_readsForm_6 f_X8_159 rfl rfl ?_
          refine mJ_caldN dX8_readsForm_9 rfl (j := p) ⟨rfl, by omega, by decide⟩ ?_
          refine mJ_top hs0 ?_
          refine mJ_put dX8_readsForm_10 p_X8_172 rfl (Nat.le_of_ble_eq_true rfl) rfl rfl (h2 := mH _ _ _ _ _ _ _ _ _ _ _ _ _ _ _ _ _ _ _ _ _) rfl ?_
          refine mJ_aload_n dX8_readsForm_13 rfl ?_
          refine mJ_dup dX8_readsForm_14 rfl ?_
          refine mJ_get dX8_readsForm_15 f_X8_159 rfl rfl ?_
          refine mJ_iconst (v := 1) dX8_readsForm_18 rfl ?_
          refine mJ_iadd dX8_readsForm_19 ?_
          refine mJ_top (nI_1 p) ?_
          refine mJ_put dX8_readsForm_20 p_X8_159 rfl (Nat.le_of_ble_eq_true rfl) rfl rfl (h2 := mH _ _ _ _ _ _ _ _ _ _ _ _ _ _ _ _ _ _ _ _ _) rfl ?_
          refine mJ_aload_n dX8_readsForm_23 rfl ?_
          refine mJ_get dX8_readsForm_24 f_X8_172 rfl rfl ?_
          refine mJ_bipush (v := 116) dX8_readsForm_27 rfl ?_
          refine mJ_icmp_ne 36 dX8_readsForm_29 rfl (fun c_29 => ?_) (fun c_29 => False.elim (by exact absurd (hk.symm.trans c_29) (by decide)))
          refine mJ_iconst (v := 0) dX8_readsForm_36 rfl ?_
          refine mJ_istore_n dX8_readsForm_37 (Nat.le_of_ble_eq_true rfl) (ls2 := [_, _]) rfl ?_
          refine mJ_aload_n dX8_readsForm_38 rfl ?_
          refine mJ_get dX8_readsForm_39 f_X8_172 rfl rfl ?_
          refine mJ_bipush (v := 111) dX8_readsForm_42 rfl ?_
          refine mJ_icmp_eq 56 dX8_readsForm_44 rfl (fun c_44 => False.elim (by exact k2 c_44)) (fun c_44 => ?_)
          refine mJ_aload_n dX8_readsForm_47 rfl ?_
          refine mJ_get dX8_readsForm_48 f_X8_172 rfl rfl ?_
          refine mJ_bipush (v := 99) dX8_readsForm_51 rfl ?_
          refine mJ_icmp_ne 65 dX8_readsForm_53 rfl (fun c_53 => ?_) (fun c_53 => False.elim (by exact k1 c_53))
          refine mJ_aload_n dX8_readsForm_65 rfl ?_
          refine mJ_get dX8_readsForm_66 f_X8_172 rfl rfl ?_
          refine mJ_bipush (v := 118) dX8_readsForm_69 rfl ?_
          refine mJ_icmp_ne 113 dX8_readsForm_71 rfl (fun c_71 => False.elim (by exact c_71 hk)) (fun c_71 => ?_)
          refine mJ_aload_n dX8_readsForm_74 rfl ?_
          refine mJ_cV0i dX8_readsForm_75 e_X8_readsSigned n_X8_175 ⟨Nat.le_of_ble_eq_true rfl, Nat.le_of_ble_eq_true rfl⟩ rfl rfl (Nat.le_of_ble_eq_true rfl) (C_X8_readsSigned hn (p := p + 1) (by omega)) ?_
          refine mJ_top (b2i_f g1) ?_
          refine mJ_istore_n dX8_readsForm_78 (Nat.le_of_ble_eq_true rfl) (ls2 := [_, _]) rfl ?_
          refine mJ_aload_n dX8_readsForm_79 rfl ?_
          refine mJ_aload_n dX8_readsForm_80 rfl ?_
          refine mJ_get dX8_readsForm_81 f_X8_162 rfl rfl ?_
          refine mJ_put dX8_readsForm_84 p_X8_179 rfl (Nat.le_of_ble_eq_true rfl) rfl rfl (h2 := mH _ _ _ _ _ _ _ _ _ _ _ _ _ _ _ _ _ _ _ _ _) rfl ?_
          refine mJ_iload_n dX8_readsForm_87 rfl ?_
          refine mJ_if_eq 111 dX8_readsForm_88 rfl (fun _ => ?_) (fun c => absurd c (by decide))
          refine mJ_iconst (v := 0) dX8_readsForm_111 rfl ?_
          refine mJ_istore_n dX8_readsForm_112 (Nat.le_of_ble_eq_true rfl) (ls2 := [_, _]) rfl ?_
          refine mJ_iload_n dX8_readsForm_113 rfl ?_
          refine mJ_if_eq 130 dX8_readsForm_114 rfl (fun _ => ?_) (fun c => absurd c (by decide))
          refine mJ_iconst (v := 0) dX8_readsForm_130 rfl ?_
          exact mJ_zret dX8_readsForm_131 rfl (Or.inl rfl) (z_f (fun e => e hx)) (rfl)
      · by_cases k4 : xS text n p = 116
        · have hk := k4
          by_cases g2 : xS text n (p + 1) = 59
          · have hx : xO text n p = some (116, 0, 0, p + 1 + 1) := by
              rw [show xO text n p = _ from if_neg (fun z => z.elim k1 k2), if_neg k3, if_pos hk, if_pos g2]
            refine ⟨nI (p + 1 + 1), xS text n p, fst, snd, ?_, (fun k a b q e => by rw [hx] at e; cases e; exact ⟨rfl, hk, fun z => absurd rfl z.1, fun z => absurd z (by decide)⟩)⟩
            refine mCt_intro (plainFor_of_name rfl) (Nat.le_of_ble_eq_true rfl) (m_all rfl) (ls := [_, _]) rfl ?_
            refine mJ_aload_n dX8_readsForm_0 rfl ?_
            refine mJ_aload_n dX8_readsForm_1 rfl ?_
            refine mJ_get dX8_readsForm_2 f_X8_16 rfl rfl ?_
            refine mJ_aload_n dX8_readsForm_5 rfl ?_
            refine mJ_get dX8_readsForm_6 f_X8_159 rfl rfl ?_
            refine mJ_caldN dX8_readsForm_9 rfl (j := p) ⟨rfl, by omega, by decide⟩ ?_
            refine mJ_top hs0 ?_
            refine mJ_put dX8_readsForm_10 p_X8_172 rfl (Nat.le_of_ble_eq_true rfl) rfl rfl (h2 := mH _ _ _ _ _ _ _ _ _ _ _ _ _ _ _ _ _ _ _ _ _) rfl ?_
            refine mJ_aload_n dX8_readsForm_13 rfl ?_
            refine mJ_dup dX8_readsForm_14 rfl ?_
            refine mJ_get dX8_readsForm_15 f_X8_159 rfl rfl ?_
            refine mJ_iconst (v := 1) dX8_readsForm_18 rfl ?_
            refine mJ_iadd dX8_readsForm_19 ?_
            refine mJ_top (nI_1 p) ?_
            refine mJ_put dX8_readsForm_20 p_X8_159 rfl (Nat.le_of_ble_eq_true rfl) rfl rfl (h2 := mH _ _ _ _ _ _ _ _ _ _ _ _ _ _ _ _ _ _ _ _ _) rfl ?_
            refine mJ_aload_n dX8_readsForm_23 rfl ?_
            refine mJ_get dX8_readsForm_24 f_X8_172 rfl rfl ?_
            refine mJ_bipush (v := 116) dX8_readsForm_27 rfl ?_
            refine mJ_icmp_ne 36 dX8_readsForm_29 rfl (fun c_29 => False.elim (by exact c_29 hk)) (fun c_29 => ?_)
            refine mJ_iconst (v := 1) dX8_readsForm_32 rfl ?_
            refine mJ_goto 37 dX8_readsForm_33 rfl ?_
            refine mJ_istore_n dX8_readsForm_37 (Nat.le_of_ble_eq_true rfl) (ls2 := [_, _]) rfl ?_
            refine mJ_aload_n dX8_readsForm_38 rfl ?_
            refine mJ_get dX8_readsForm_39 f_X8_172 rfl rfl ?_
            refine mJ_bipush (v := 111) dX8_readsForm_42 rfl ?_
            refine mJ_icmp_eq 56 dX8_readsForm_44 rfl (fun c_44 => False.elim (by exact k2 c_44)) (fun c_44 => ?_)
            refine mJ_aload_n dX8_readsForm_47 rfl ?_
            refine mJ_get dX8_readsForm_48 f_X8_172 rfl rfl ?_
            refine mJ_bipush (v := 99) dX8_readsForm_51 rfl ?_
            refine mJ_icmp_ne 65 dX8_readsForm_53 rfl (fun c_53 => ?_) (fun c_53 => False.elim (by exact k1 c_53))
            refine mJ_aload_n dX8_readsForm_65 rfl ?_
            refine mJ_get dX8_readsForm_66 f_X8_172 rfl rfl ?_
            refine mJ_bipush (v := 118) dX8_readsForm_69 rfl ?_
            refine mJ_icmp_ne 113 dX8_readsForm_71 rfl (fun c_71 => ?_) (fun c_71 => False.elim (by exact k3 c_71))
            refine mJ_iload_n dX8_readsForm_113 rfl ?_
            refine mJ_if_eq 130 dX8_readsForm_114 rfl (fun c => absurd c (by decide)) (fun _ => ?_)
            refine mJ_aload_n dX8_readsForm_117 rfl ?_
            refine mJ_bipush (v := 59) dX8_readsForm_118 rfl ?_
            refine mJ_cV1i dX8_readsForm_120 e_X8_passes n_X8_165 ⟨Nat.le_of_ble_eq_true rfl, Nat.le_of_ble_eq_true rfl⟩ rfl rfl (Nat.le_of_ble_eq_true rfl) (C_X8_passes_t hn (p := p + 1) (by decide) g2) ?_
            refine mJ_top (b2i_t g2) ?_
            refine mJ_if_eq 130 dX8_readsForm_123 rfl (fun c => absurd c (by decide)) (fun _ => ?_)
            refine mJ_iconst (v := 1) dX8_readsForm_126 rfl ?_
            refine mJ_goto 131 dX8_readsForm_127 rfl ?_
            exact mJ_zret dX8_readsForm_131 rfl (Or.inr rfl) (z_t (by rw [hx]; exact fun e => by cases e)) (rfl)
          · have hx : xO text n p = none := by
              rw [show xO text n p = _ from if_neg (fun z => z.elim k1 k2), if_neg k3, if_pos hk, if_neg g2]
            refine ⟨nI (p + 1), xS text n p, fst, snd, ?_, (fun k a b q e => by rw [hx] at e; cases e)⟩
            refine mCt_intro (plainFor_of_name rfl) (Nat.le_of_ble_eq_true rfl) (m_all rfl) (ls := [_, _]) rfl ?_
            refine mJ_aload_n dX8_readsForm_0 rfl ?_
            refine mJ_aload_n dX8_readsForm_1 rfl ?_
            refine mJ_get dX8_readsForm_2 f_X8_16 rfl rfl ?_
            refine mJ_aload_n dX8_readsForm_5 rfl ?_
            refine mJ_get dX8_readsForm_6 f_X8_159 rfl rfl ?_
            refine mJ_caldN dX8_readsForm_9 rfl (j := p) ⟨rfl, by omega, by decide⟩ ?_
            refine mJ_top hs0 ?_
            refine mJ_put dX8_readsForm_10 p_X8_172 rfl (Nat.le_of_ble_eq_true rfl) rfl rfl (h2 := mH _ _ _ _ _ _ _ _ _ _ _ _ _ _ _ _ _ _ _ _ _) rfl ?_
            refine mJ_aload_n dX8_readsForm_13 rfl ?_
            refine mJ_dup dX8_readsForm_14 rfl ?_
            refine mJ_get dX8_readsForm_15 f_X8_159 rfl rfl ?_
            refine mJ_iconst (v := 1) dX8_readsForm_18 rfl ?_
            refine mJ_iadd dX8_readsForm_19 ?_
            refine mJ_top (nI_1 p) ?_
            refine mJ_put dX8_readsForm_20 p_X8_159 rfl (Nat.le_of_ble_eq_true rfl) rfl rfl (h2 := mH _ _ _ _ _ _ _ _ _ _ _ _ _ _ _ _ _ _ _ _ _) rfl ?_
            refine mJ_aload_n dX8_readsForm_23 rfl ?_
            refine mJ_get dX8_readsForm_24 f_X8_172 rfl rfl ?_
            refine mJ_bipush (v := 116) dX8_readsForm_27 rfl ?_
            refine mJ_icmp_ne 36 dX8_readsForm_29 rfl (fun c_29 => False.elim (by exact c_29 hk)) (fun c_29 => ?_)
            refine mJ_iconst (v := 1) dX8_readsForm_32 rfl ?_
            refine mJ_goto 37 dX8_readsForm_33 rfl ?_
            refine mJ_istore_n dX8_readsForm_37 (Nat.le_of_ble_eq_true rfl) (ls2 := [_, _]) rfl ?_
            refine mJ_aload_n dX8_readsForm_38 rfl ?_
            refine mJ_get dX8_readsForm_39 f_X8_172 rfl rfl ?_
            refine mJ_bipush (v := 111) dX8_readsForm_42 rfl ?_
            refine mJ_icmp_eq 56 dX8_readsForm_44 rfl (fun c_44 => False.elim (by exact k2 c_44)) (fun c_44 => ?_)
            refine mJ_aload_n dX8_readsForm_47 rfl ?_
            refine mJ_get dX8_readsForm_48 f_X8_172 rfl rfl ?_
            refine mJ_bipush (v := 99) dX8_readsForm_51 rfl ?_
            refine mJ_icmp_ne 65 dX8_readsForm_53 rfl (fun c_53 => ?_) (fun c_53 => False.elim (by exact k1 c_53))
            refine mJ_aload_n dX8_readsForm_65 rfl ?_
            refine mJ_get dX8_readsForm_66 f_X8_172 rfl rfl ?_
            refine mJ_bipush (v := 118) dX8_readsForm_69 rfl ?_
            refine mJ_icmp_ne 113 dX8_readsForm_71 rfl (fun c_71 => ?_) (fun c_71 => False.elim (by exact k3 c_71))
            refine mJ_iload_n dX8_readsForm_113 rfl ?_
            refine mJ_if_eq 130 dX8_readsForm_114 rfl (fun c => absurd c (by decide)) (fun _ => ?_)
            refine mJ_aload_n dX8_readsForm_117 rfl ?_
            refine mJ_bipush (v := 59) dX8_readsForm_118 rfl ?_
            refine mJ_cV1i dX8_readsForm_120 e_X8_passes n_X8_165 ⟨Nat.le_of_ble_eq_true rfl, Nat.le_of_ble_eq_true rfl⟩ rfl rfl (Nat.le_of_ble_eq_true rfl) (C_X8_passes_f hn (p := p + 1) (by omega) g2) ?_
            refine mJ_top (b2i_f g2) ?_
            refine mJ_if_eq 130 dX8_readsForm_123 rfl (fun _ => ?_) (fun c => absurd c (by decide))
            refine mJ_iconst (v := 0) dX8_readsForm_130 rfl ?_
            exact mJ_zret dX8_readsForm_131 rfl (Or.inl rfl) (z_f (fun e => e hx)) (rfl)
        · have hx : xO text n p = none := by
            rw [show xO text n p = _ from if_neg (fun z => z.elim k1 k2), if_neg k3, if_neg k4]
          refine ⟨nI (p + 1), xS text n p, fst, snd, ?_, (fun k a b q e => by rw [hx] at e; cases e)⟩
          refine mCt_intro (plainFor_of_name rfl) (Nat.le_of_ble_eq_true rfl) (m_all rfl) (ls := [_, _]) rfl ?_
          refine mJ_aload_n dX8_readsForm_0 rfl ?_
          refine mJ_aload_n dX8_readsForm_1 rfl ?_
          refine mJ_get dX8_readsForm_2 f_X8_16 rfl rfl ?_
          refine mJ_aload_n dX8_readsForm_5 rfl ?_
          refine mJ_get dX8_readsForm_6 f_X8_159 rfl rfl ?_
          refine mJ_caldN dX8_readsForm_9 rfl (j := p) ⟨rfl, by omega, by decide⟩ ?_
          refine mJ_top hs0 ?_
          refine mJ_put dX8_readsForm_10 p_X8_172 rfl (Nat.le_of_ble_eq_true rfl) rfl rfl (h2 := mH _ _ _ _ _ _ _ _ _ _ _ _ _ _ _ _ _ _ _ _ _) rfl ?_
          refine mJ_aload_n dX8_readsForm_13 rfl ?_
          refine mJ_dup dX8_readsForm_14 rfl ?_
          refine mJ_get dX8_readsForm_15 f_X8_159 rfl rfl ?_
          refine mJ_iconst (v := 1) dX8_readsForm_18 rfl ?_
          refine mJ_iadd dX8_readsForm_19 ?_
          refine mJ_top (nI_1 p) ?_
          refine mJ_put dX8_readsForm_20 p_X8_159 rfl (Nat.le_of_ble_eq_true rfl) rfl rfl (h2 := mH _ _ _ _ _ _ _ _ _ _ _ _ _ _ _ _ _ _ _ _ _) rfl ?_
          refine mJ_aload_n dX8_readsForm_23 rfl ?_
          refine mJ_get dX8_readsForm_24 f_X8_172 rfl rfl ?_
          refine mJ_bipush (v := 116) dX8_readsForm_27 rfl ?_
          refine mJ_icmp_ne 36 dX8_readsForm_29 rfl (fun c_29 => ?_) (fun c_29 => False.elim (by exact k4 c_29))
          refine mJ_iconst (v := 0) dX8_readsForm_36 rfl ?_
          refine mJ_istore_n dX8_readsForm_37 (Nat.le_of_ble_eq_true rfl) (ls2 := [_, _]) rfl ?_
          refine mJ_aload_n dX8_readsForm_38 rfl ?_
          refine mJ_get dX8_readsForm_39 f_X8_172 rfl rfl ?_
          refine mJ_bipush (v := 111) dX8_readsForm_42 rfl ?_
          refine mJ_icmp_eq 56 dX8_readsForm_44 rfl (fun c_44 => False.elim (by exact k2 c_44)) (fun c_44 => ?_)
          refine mJ_aload_n dX8_readsForm_47 rfl ?_
          refine mJ_get dX8_readsForm_48 f_X8_172 rfl rfl ?_
          refine mJ_bipush (v := 99) dX8_readsForm_51 rfl ?_
          refine mJ_icmp_ne 65 dX8_readsForm_53 rfl (fun c_53 => ?_) (fun c_53 => False.elim (by exact k1 c_53))
          refine mJ_aload_n dX8_readsForm_65 rfl ?_
          refine mJ_get dX8_readsForm_66 f_X8_172 rfl rfl ?_
          refine mJ_bipush (v := 118) dX8_readsForm_69 rfl ?_
          refine mJ_icmp_ne 113 dX8_readsForm_71 rfl (fun c_71 => ?_) (fun c_71 => False.elim (by exact k3 c_71))
          refine mJ_iload_n dX8_readsForm_113 rfl ?_
          refine mJ_if_eq 130 dX8_readsForm_114 rfl (fun _ => ?_) (fun c => absurd c (by decide))
          refine mJ_iconst (v := 0) dX8_readsForm_130 rfl ?_
          exact mJ_zret dX8_readsForm_131 rfl (Or.inl rfl) (z_f (fun e => e hx)) (rfl)
