/-! THE REFERENCE: faults of the text -/
set_option maxHeartbeats 4000000 in
set_option maxRecDepth 100000 in
theorem C_X8_readsOrder {d was text ord why son tri : aF} {sta sig fst snd rea lef top shf arr goo shn trs : Int32} {n nH : Nat} (hn : n ≤ 60) (h50 : d 50 = nI nH) (hl : nH ≤ 12) {p : Nat} (hp : p < n) : ∃ at' sig' fst' snd' : Int32, mCt k_X8_readsOrder [.ref 0] (mH d was sta text (nI n) (nI p) sig fst snd rea lef top shf arr goo ord why son shn tri trs) (some (.int (b2i (xR text n nH p = 0)))) (mH d was sta text (nI n) (at') (sig') (fst') (snd') (xR text n nH p) lef top shf arr goo ord why son shn tri trs) ∧ (∀ k a b q, xO text n p = some (k, a, b, q) → at' = nI q ∧ sig' = k ∧ (¬ k = 116 ∧ ¬ k = 118 → snd' = a) ∧ (k = 118 → fst' = a ∧ snd' = b)) := by
  obtain ⟨u1, u2, u3, u4, hr, hp4⟩ := C_X8_readsForm (d := d) (was := was) (sta := sta) (text := text) (sig := sig) (fst := fst) (snd := snd) (rea := rea) (lef := lef) (top := top) (shf := shf) (arr := arr) (goo := goo) (ord := ord) (why := why) (son := son) (shn := shn) (tri := tri) (trs := trs) hn hp
  cases hx : xO text n p with
  | none =>
    have hR := xR_n (nH := nH) hx
    refine ⟨u1, u2, u3, u4, ?_, fun k a b q e => by cases e⟩
    refine mCt_intro (plainFor_of_name rfl) (Nat.le_of_ble_eq_true rfl) (m_all rfl) (ls := [_]) rfl ?_
    refine mJ_aload_n dX8_readsOrder_0 rfl ?_
    refine mJ_aload_n dX8_readsOrder_1 rfl ?_
    refine mJ_cV0i dX8_readsOrder_2 e_X8_readsForm n_X8_182 ⟨Nat.le_of_ble_eq_true rfl, Nat.le_of_ble_eq_true rfl⟩ rfl rfl (Nat.le_of_ble_eq_true rfl) (hr) ?_
    refine mJ_top (b2i_f (fun z => z hx)) ?_
    refine mJ_if_eq 12 dX8_readsOrder_5 rfl (fun _ => ?_) (fun c => absurd c (by decide))
    refine mJ_iconst (v := 1) dX8_readsOrder_12 rfl ?_
    refine mJ_put dX8_readsOrder_13 p_X8_185 rfl (Nat.le_of_ble_eq_true rfl) rfl rfl (h2 := mH _ _ _ _ _ _ _ _ _ _ _ _ _ _ _ _ _ _ _ _ _) rfl ?_
    refine mJ_aload_n dX8_readsOrder_16 rfl ?_
    refine mJ_get dX8_readsOrder_17 f_X8_185 rfl rfl ?_
    refine mJ_top (show (1 : Int32) = 1 from rfl) ?_
    refine mJ_if_ne 57 dX8_readsOrder_20 rfl (fun _ => ?_) (fun c => absurd c (by decide))
    refine mJ_aload_n dX8_readsOrder_57 rfl ?_
    refine mJ_get dX8_readsOrder_58 f_X8_185 rfl rfl ?_
    refine mJ_top (show (1 : Int32) = 1 from rfl) ?_
    refine mJ_if_ne 68 dX8_readsOrder_61 rfl (fun _ => ?_) (fun c => absurd c (by decide))
    refine mJ_iconst (v := 0) dX8_readsOrder_68 rfl ?_
    exact mJ_zret dX8_readsOrder_69 rfl (Or.inl rfl) (z_f (by rw [hR]; decide)) (by rw [hR])
  | some y =>
    obtain ⟨k, a, b, q⟩ := y
    obtain ⟨f1, f2, f3, f4⟩ := hp4 k a b q hx
    obtain ⟨x1, x2, x3⟩ := xO_ok hx
    have hne : ¬ xO text n p = none := by rw [hx]; exact fun z => by cases z
    have ha : (k = 111 ∨ k = 99) → u4 = a ∧ ¬ a < 0 := fun g1 => by
      rcases x3 with ⟨_, m, hm, e⟩ | e | e
      · exact ⟨f3 ⟨fun z => by rw [z] at g1; rcases g1 with z | z <;> exact absurd z (by decide), fun z => by rw [z] at g1; rcases g1 with z | z <;> exact absurd z (by decide)⟩, by rw [e]; exact nI_pos (by omega)⟩
      · rw [e] at g1; rcases g1 with z | z <;> exact absurd z (by decide)
      · rw [e] at g1; rcases g1 with z | z <;> exact absurd z (by decide)
    by_cases g : (k = 111 ∨ k = 99) ∧ nI nH ≤ a
    · have hR := xR_2 hx g
      have hq : ¬ q_rg u4 0 (d 50 - 1) := by rw [h50, (ha g.1).1, rgH (by omega)]; exact fun z => z.2 g.2
      refine ⟨u1, u2, u3, u4, ?_, fun k' a' b' q' e => hp4 k' a' b' q' (hx.trans e)⟩
      refine mCt_intro (plainFor_of_name rfl) (Nat.le_of_ble_eq_true rfl) (m_all rfl) (ls := [_]) rfl ?_
      refine mJ_aload_n dX8_readsOrder_0 rfl ?_
      refine mJ_aload_n dX8_readsOrder_1 rfl ?_
      refine mJ_cV0i dX8_readsOrder_2 e_X8_readsForm n_X8_182 ⟨Nat.le_of_ble_eq_true rfl, Nat.le_of_ble_eq_true rfl⟩ rfl rfl (Nat.le_of_ble_eq_true rfl) (hr) ?_
      refine mJ_top (b2i_t hne) ?_
      refine mJ_if_eq 12 dX8_readsOrder_5 rfl (fun c => absurd c (by decide)) (fun _ => ?_)
      refine mJ_iconst (v := 0) dX8_readsOrder_8 rfl ?_
      refine mJ_goto 13 dX8_readsOrder_9 rfl ?_
      refine mJ_put dX8_readsOrder_13 p_X8_185 rfl (Nat.le_of_ble_eq_true rfl) rfl rfl (h2 := mH _ _ _ _ _ _ _ _ _ _ _ _ _ _ _ _ _ _ _ _ _) rfl ?_
      refine mJ_aload_n dX8_readsOrder_16 rfl ?_
      refine mJ_get dX8_readsOrder_17 f_X8_185 rfl rfl ?_
      refine mJ_top (show (0 : Int32) = 0 from rfl) ?_
      refine mJ_if_ne 57 dX8_readsOrder_20 rfl (fun c => absurd c (by decide)) (fun _ => ?_)
      refine mJ_aload_n dX8_readsOrder_23 rfl ?_
      refine mJ_get dX8_readsOrder_24 f_X8_172 rfl rfl ?_
      refine mJ_bipush (v := 111) dX8_readsOrder_27 rfl ?_
      refine mJ_icmp_eq 41 dX8_readsOrder_29 rfl (fun c_29 => ?_) (fun c_29 => ?_)
      · refine mJ_aload_n dX8_readsOrder_41 rfl ?_
        refine mJ_aload_n dX8_readsOrder_42 rfl ?_
        refine mJ_get dX8_readsOrder_43 f_X8_162 rfl rfl ?_
        refine mJ_cV1i dX8_readsOrder_46 e_X8_isHint n_X8_138 ⟨Nat.le_of_ble_eq_true rfl, Nat.le_of_ble_eq_true rfl⟩ rfl rfl (Nat.le_of_ble_eq_true rfl) (C_X8_isHint) ?_
        refine mJ_top (b2i_f hq) ?_
        refine mJ_if_ne 57 dX8_readsOrder_49 rfl (fun c => absurd c (by decide)) (fun _ => ?_)
        refine mJ_aload_n dX8_readsOrder_52 rfl ?_
        refine mJ_iconst (v := 2) dX8_readsOrder_53 rfl ?_
        refine mJ_put dX8_readsOrder_54 p_X8_185 rfl (Nat.le_of_ble_eq_true rfl) rfl rfl (h2 := mH _ _ _ _ _ _ _ _ _ _ _ _ _ _ _ _ _ _ _ _ _) rfl ?_
        refine mJ_aload_n dX8_readsOrder_57 rfl ?_
        refine mJ_get dX8_readsOrder_58 f_X8_185 rfl rfl ?_
        refine mJ_top (show (2 : Int32) = 2 from rfl) ?_
        refine mJ_if_ne 68 dX8_readsOrder_61 rfl (fun _ => ?_) (fun c => absurd c (by decide))
        refine mJ_iconst (v := 0) dX8_readsOrder_68 rfl ?_
        exact mJ_zret dX8_readsOrder_69 rfl (Or.inl rfl) (z_f (by rw [hR]; decide)) (by rw [hR])
      · refine mJ_aload_n dX8_readsOrder_32 rfl ?_
        refine mJ_get dX8_readsOrder_33 f_X8_172 rfl rfl ?_
        refine mJ_bipush (v := 99) dX8_readsOrder_36 rfl ?_
        refine mJ_icmp_ne 57 dX8_readsOrder_38 rfl (fun c_38 => False.elim (by rw [f2] at c_29 c_38; exact g.1.elim c_29 c_38)) (fun c_38 => ?_)
        refine mJ_aload_n dX8_readsOrder_41 rfl ?_
        refine mJ_aload_n dX8_readsOrder_42 rfl ?_
        refine mJ_get dX8_readsOrder_43 f_X8_162 rfl rfl ?_
        refine mJ_cV1i dX8_readsOrder_46 e_X8_isHint n_X8_138 ⟨Nat.le_of_ble_eq_true rfl, Nat.le_of_ble_eq_true rfl⟩ rfl rfl (Nat.le_of_ble_eq_true rfl) (C_X8_isHint) ?_
        refine mJ_top (b2i_f hq) ?_
        refine mJ_if_ne 57 dX8_readsOrder_49 rfl (fun c => absurd c (by decide)) (fun _ => ?_)
        refine mJ_aload_n dX8_readsOrder_52 rfl ?_
        refine mJ_iconst (v := 2) dX8_readsOrder_53 rfl ?_
        refine mJ_put dX8_readsOrder_54 p_X8_185 rfl (Nat.le_of_ble_eq_true rfl) rfl rfl (h2 := mH _ _ _ _ _ _ _ _ _ _ _ _ _ _ _ _ _ _ _ _ _) rfl ?_
        refine mJ_aload_n dX8_readsOrder_57 rfl ?_
        refine mJ_get dX8_readsOrder_58 f_X8_185 rfl rfl ?_
        refine mJ_top (show (2 : Int32) = 2 from rfl) ?_
        refine mJ_if_ne 68 dX8_readsOrder_61 rfl (fun _ => ?_) (fun c => absurd c (by decide))
        refine mJ_iconst (v := 0) dX8_readsOrder_68 rfl ?_
        exact mJ_zret dX8_readsOrder_69 rfl (Or.inl rfl) (z_f (by rw [hR]; decide)) (by rw [hR])
    · have hR := xR_0 hx g
      refine ⟨u1, u2, u3, u4, ?_, fun k' a' b' q' e => hp4 k' a' b' q' (hx.trans e)⟩
      refine mCt_intro (plainFor_of_name rfl) (Nat.le_of_ble_eq_true rfl) (m_all rfl) (ls := [_]) rfl ?_
      refine mJ_aload_n dX8_readsOrder_0 rfl ?_
      refine mJ_aload_n dX8_readsOrder_1 rfl ?_
      refine mJ_cV0i dX8_readsOrder_2 e_X8_readsForm n_X8_182 ⟨Nat.le_of_ble_eq_true rfl, Nat.le_of_ble_eq_true rfl⟩ rfl rfl (Nat.le_of_ble_eq_true rfl) (hr) ?_
      refine mJ_top (b2i_t hne) ?_
      refine mJ_if_eq 12 dX8_readsOrder_5 rfl (fun c => absurd c (by decide)) (fun _ => ?_)
      refine mJ_iconst (v := 0) dX8_readsOrder_8 rfl ?_
      refine mJ_goto 13 dX8_readsOrder_9 rfl ?_
      refine mJ_put dX8_readsOrder_13 p_X8_185 rfl (Nat.le_of_ble_eq_true rfl) rfl rfl (h2 := mH _ _ _ _ _ _ _ _ _ _ _ _ _ _ _ _ _ _ _ _ _) rfl ?_
      refine mJ_aload_n dX8_readsOrder_16 rfl ?_
      refine mJ_get dX8_readsOrder_17 f_X8_185 rfl rfl ?_
      refine mJ_top (show (0 : Int32) = 0 from rfl) ?_
      refine mJ_if_ne 57 dX8_readsOrder_20 rfl (fun c => absurd c (by decide)) (fun _ => ?_)
      refine mJ_aload_n dX8_readsOrder_23 rfl ?_
      refine mJ_get dX8_readsOrder_24 f_X8_172 rfl rfl ?_
      refine mJ_bipush (v := 111) dX8_readsOrder_27 rfl ?_
      refine mJ_icmp_eq 41 dX8_readsOrder_29 rfl (fun c_29 => ?_) (fun c_29 => ?_)
      · refine mJ_aload_n dX8_readsOrder_41 rfl ?_
        refine mJ_aload_n dX8_readsOrder_42 rfl ?_
        refine mJ_get dX8_readsOrder_43 f_X8_162 rfl rfl ?_
        refine mJ_cV1i dX8_readsOrder_46 e_X8_isHint n_X8_138 ⟨Nat.le_of_ble_eq_true rfl, Nat.le_of_ble_eq_true rfl⟩ rfl rfl (Nat.le_of_ble_eq_true rfl) (C_X8_isHint) ?_
        refine mJ_top (b2i_t (by rw [f2] at c_29; rw [h50, (ha (Or.inl c_29)).1, rgH (by omega)]; exact ⟨(ha (Or.inl c_29)).2, fun z => g ⟨Or.inl c_29, z⟩⟩)) ?_
        refine mJ_if_ne 57 dX8_readsOrder_49 rfl (fun _ => ?_) (fun c => absurd c (by decide))
        refine mJ_aload_n dX8_readsOrder_57 rfl ?_
        refine mJ_get dX8_readsOrder_58 f_X8_185 rfl rfl ?_
        refine mJ_top (show (0 : Int32) = 0 from rfl) ?_
        refine mJ_if_ne 68 dX8_readsOrder_61 rfl (fun c => absurd c (by decide)) (fun _ => ?_)
        refine mJ_iconst (v := 1) dX8_readsOrder_64 rfl ?_
        refine mJ_goto 69 dX8_readsOrder_65 rfl ?_
        exact mJ_zret dX8_readsOrder_69 rfl (Or.inr rfl) (z_t hR) (by rw [hR])
      · refine mJ_aload_n dX8_readsOrder_32 rfl ?_
        refine mJ_get dX8_readsOrder_33 f_X8_172 rfl rfl ?_
        refine mJ_bipush (v := 99) dX8_readsOrder_36 rfl ?_
        refine mJ_icmp_ne 57 dX8_readsOrder_38 rfl (fun c_38 => ?_) (fun c_38 => ?_)
        · refine mJ_aload_n dX8_readsOrder_57 rfl ?_
          refine mJ_get dX8_readsOrder_58 f_X8_185 rfl rfl ?_
          refine mJ_top (show (0 : Int32) = 0 from rfl) ?_
          refine mJ_if_ne 68 dX8_readsOrder_61 rfl (fun c => absurd c (by decide)) (fun _ => ?_)
          refine mJ_iconst (v := 1) dX8_readsOrder_64 rfl ?_
          refine mJ_goto 69 dX8_readsOrder_65 rfl ?_
          exact mJ_zret dX8_readsOrder_69 rfl (Or.inr rfl) (z_t hR) (by rw [hR])
        · refine mJ_aload_n dX8_readsOrder_41 rfl ?_
          refine mJ_aload_n dX8_readsOrder_42 rfl ?_
          refine mJ_get dX8_readsOrder_43 f_X8_162 rfl rfl ?_
          refine mJ_cV1i dX8_readsOrder_46 e_X8_isHint n_X8_138 ⟨Nat.le_of_ble_eq_true rfl, Nat.le_of_ble_eq_true rfl⟩ rfl rfl (Nat.le_of_ble_eq_true rfl) (C_X8_isHint) ?_
          refine mJ_top (b2i_t (by rw [f2] at c_38; rw [h50, (ha (Or.inr c_38)).1, rgH (by omega)]; exact ⟨(ha (Or.inr c_38)).2, fun z => g ⟨Or.inr c_38, z⟩⟩)) ?_
          refine mJ_if_ne 57 dX8_readsOrder_49 rfl (fun _ => ?_) (fun c => absurd c (by decide))
          refine mJ_aload_n dX8_readsOrder_57 rfl ?_
          refine mJ_get dX8_readsOrder_58 f_X8_185 rfl rfl ?_
          refine mJ_top (show (0 : Int32) = 0 from rfl) ?_
          refine mJ_if_ne 68 dX8_readsOrder_61 rfl (fun c => absurd c (by decide)) (fun _ => ?_)
          refine mJ_iconst (v := 1) dX8_readsOrder_64 rfl ?_
          refine mJ_goto 69 dX8_readsOrder_65 rfl ?_
          exact mJ_zret dX8_readsOrder_69 rfl (Or.inr rfl) (z_t hR) (by rw [hR])
set_option maxHeartbeats 4000000 in
set_option maxRecDepth 100000 in
theorem L_X8_faulty {d was text ord why son tri : aF} {sta lef top shf arr goo shn trs : Int32} {n nH : Nat} (hn : n ≤ 60) (h50 : d 50 = nI nH) (hl : nH ≤ 12) : ∀ (m p : Nat) (x1 : Value) (sig fst snd rea : Int32), n ≤ p + m → p < 1000 → ∃ at' sig' fst' snd' rea' : Int32, mJ k_X8_faulty 5 [.ref 0, x1] [] (mH d was sta text (nI n) (nI p) sig fst snd rea lef top shf arr goo ord why son shn tri trs) (some (.int (fP (xF text n nH m p)))) (mH d was sta text (nI n) (at') (sig') (fst') (snd') (rea') lef top shf arr goo ord why son shn tri trs) ∧ (∀ pos r, xF text n nH m p = some (pos, r) → rea' = r) := by
  intro m
  induction m with
  | zero =>
    intro p x1 sig fst snd rea hp hp9
    refine ⟨nI p, sig, fst, snd, rea, ?_, fun pos r e => by cases e⟩
    refine mJ_aload_n dX8_faulty_5 rfl ?_
    refine mJ_get dX8_faulty_6 f_X8_159 rfl rfl ?_
    refine mJ_aload_n dX8_faulty_9 rfl ?_
    refine mJ_get dX8_faulty_10 f_X8_131 rfl rfl ?_
    refine mJ_icmp_ge 33 dX8_faulty_13 rfl (fun c_13 => ?_) (fun c_13 => False.elim (by exact c_13 (nI_le (by omega) (by omega))))
    refine mJ_sipush (v := (-10004)) dX8_faulty_33 rfl ?_
    exact mJ_iret dX8_faulty_36 rfl (rfl) (rfl)
  | succ m ih =>
    intro p x1 sig fst snd rea hp hp9
    by_cases g0 : n ≤ p
    · have hF : xF text n nH (m + 1) p = none := xF_e g0
      rw [hF]
      refine ⟨nI p, sig, fst, snd, rea, ?_, fun pos r e => by cases e⟩
      refine mJ_aload_n dX8_faulty_5 rfl ?_
      refine mJ_get dX8_faulty_6 f_X8_159 rfl rfl ?_
      refine mJ_aload_n dX8_faulty_9 rfl ?_
      refine mJ_get dX8_faulty_10 f_X8_131 rfl rfl ?_
      refine mJ_icmp_ge 33 dX8_faulty_13 rfl (fun c_13 => ?_) (fun c_13 => False.elim (by exact c_13 (nI_le (by omega) (by omega))))
      refine mJ_sipush (v := (-10004)) dX8_faulty_33 rfl ?_
      exact mJ_iret dX8_faulty_36 rfl (rfl) (rfl)
    · obtain ⟨u1, u2, u3, u4, hr, hp4⟩ := C_X8_readsOrder (d := d) (was := was) (sta := sta) (text := text) (sig := sig) (fst := fst) (snd := snd) (rea := rea) (lef := lef) (top := top) (shf := shf) (arr := arr) (goo := goo) (ord := ord) (why := why) (son := son) (shn := shn) (tri := tri) (trs := trs) hn h50 hl (p := p) (by omega)
      by_cases g : xR text n nH p = 0
      · have hF : xF text n nH (m + 1) p = xF text n nH m (xQ text n p) := xF_g g0 g
        rw [hF]
        obtain ⟨y, hx⟩ : ∃ y, xO text n p = some y := by
          cases hx : xO text n p with
          | none => rw [xR_n hx] at g; exact absurd g (by decide)
          | some y => exact ⟨y, rfl⟩
        obtain ⟨k, a, b, q⟩ := y
        obtain ⟨f1, f2, f3, f4⟩ := hp4 k a b q hx
        obtain ⟨x1', x2, x3⟩ := xO_ok hx
        rw [xQ_s hx]
        obtain ⟨v1, v2, v3, v4, v5, hj, hz⟩ := ih q (.int (nI p)) u2 u3 u4 (xR text n nH p) (by omega) (by omega)
        rw [← f1] at hj
        refine ⟨v1, v2, v3, v4, v5, ?_, hz⟩
        refine mJ_aload_n dX8_faulty_5 rfl ?_
        refine mJ_get dX8_faulty_6 f_X8_159 rfl rfl ?_
        refine mJ_aload_n dX8_faulty_9 rfl ?_
        refine mJ_get dX8_faulty_10 f_X8_131 rfl rfl ?_
        refine mJ_icmp_ge 33 dX8_faulty_13 rfl (fun c_13 => False.elim (by exact g0 ((nI_leI (by omega) (by omega)).mp c_13))) (fun c_13 => ?_)
        refine mJ_aload_n dX8_faulty_16 rfl ?_
        refine mJ_get dX8_faulty_17 f_X8_159 rfl rfl ?_
        refine mJ_istore_n dX8_faulty_20 (Nat.le_of_ble_eq_true rfl) (ls2 := [_, _]) rfl ?_
        refine mJ_aload_n dX8_faulty_21 rfl ?_
        refine mJ_cV0i dX8_faulty_22 e_X8_readsOrder n_X8_188 ⟨Nat.le_of_ble_eq_true rfl, Nat.le_of_ble_eq_true rfl⟩ rfl rfl (Nat.le_of_ble_eq_true rfl) (hr) ?_
        refine mJ_top (b2i_t g) ?_
        refine mJ_if_ne 30 dX8_faulty_25 rfl (fun _ => ?_) (fun c => absurd c (by decide))
        refine mJ_goto 5 dX8_faulty_30 rfl ?_
        exact hj
      · have hF : xF text n nH (m + 1) p = some (p, xR text n nH p) := xF_b g0 rfl g
        rw [hF]
        refine ⟨u1, u2, u3, u4, xR text n nH p, ?_, fun pos r e => by cases e; rfl⟩
        refine mJ_aload_n dX8_faulty_5 rfl ?_
        refine mJ_get dX8_faulty_6 f_X8_159 rfl rfl ?_
        refine mJ_aload_n dX8_faulty_9 rfl ?_
        refine mJ_get dX8_faulty_10 f_X8_131 rfl rfl ?_
        refine mJ_icmp_ge 33 dX8_faulty_13 rfl (fun c_13 => False.elim (by exact g0 ((nI_leI (by omega) (by omega)).mp c_13))) (fun c_13 => ?_)
        refine mJ_aload_n dX8_faulty_16 rfl ?_
        refine mJ_get dX8_faulty_17 f_X8_159 rfl rfl ?_
        refine mJ_istore_n dX8_faulty_20 (Nat.le_of_ble_eq_true rfl) (ls2 := [_, _]) rfl ?_
        refine mJ_aload_n dX8_faulty_21 rfl ?_
        refine mJ_cV0i dX8_faulty_22 e_X8_readsOrder n_X8_188 ⟨Nat.le_of_ble_eq_true rfl, Nat.le_of_ble_eq_true rfl⟩ rfl rfl (Nat.le_of_ble_eq_true rfl) (hr) ?_
        refine mJ_top (b2i_f g) ?_
        refine mJ_if_ne 30 dX8_faulty_25 rfl (fun c => absurd c (by decide)) (fun _ => ?_)
        refine mJ_iload_n dX8_faulty_28 rfl ?_
        exact mJ_iret dX8_faulty_29 rfl (rfl) (rfl)
set_option maxHeartbeats 4000000 in
set_option maxRecDepth 100000 in
theorem C_X8_faulty {d was text ord why son tri : aF} {sta at_ sig fst snd rea lef top shf arr goo shn trs : Int32} {n nH : Nat} (hn : n ≤ 60) (h50 : d 50 = nI nH) (hl : nH ≤ 12) : ∃ at' sig' fst' snd' rea' : Int32, mCt k_X8_faulty [.ref 0] (mH d was sta text (nI n) at_ sig fst snd rea lef top shf arr goo ord why son shn tri trs) (some (.int (fP (xF text n nH 60 0)))) (mH d was sta text (nI n) (at') (sig') (fst') (snd') (rea') lef top shf arr goo ord why son shn tri trs) ∧ (∀ pos r, xF text n nH 60 0 = some (pos, r) → rea' = r) := by
  obtain ⟨v1, v2, v3, v4, v5, hj, hz⟩ := L_X8_faulty (d := d) (was := was) (sta := sta) (text := text) (lef := lef) (top := top) (shf := shf) (arr := arr) (goo := goo) (ord := ord) (why := why) (son := son) (shn := shn) (tri := tri) (trs := trs) hn h50 hl 60 0 .null sig fst snd rea (by omega) (by omega)
  refine ⟨v1, v2, v3, v4, v5, ?_, hz⟩
  refine mCt_intro (plainFor_of_name rfl) (Nat.le_of_ble_eq_true rfl) (m_all rfl) (ls := [_, _]) rfl ?_
  refine mJ_aload_n dX8_faulty_0 rfl ?_
  refine mJ_iconst (v := 0) dX8_faulty_1 rfl ?_
  refine mJ_put dX8_faulty_2 p_X8_159 rfl (Nat.le_of_ble_eq_true rfl) rfl rfl (h2 := mH _ _ _ _ _ _ _ _ _ _ _ _ _ _ _ _ _ _ _ _ _) rfl ?_
  exact hj
set_option maxHeartbeats 4000000 in
set_option maxRecDepth 100000 in
theorem C_X8_fault_bad {d was text ord why son tri : aF} {sta typ at_ sig fst snd rea lef top shf arr goo shn trs : Int32} {v : Int32} (hb : ¬ (q_rg v 0 1)) : mCt k_X8_fault [.ref 0, .int v] (mH d was sta text typ at_ sig fst snd rea lef top shf arr goo ord why son shn tri trs) (some (.int (-10001))) (mH d was sta text typ at_ sig fst snd rea lef top shf arr goo ord why son shn tri trs) := by
  refine mCt_intro (plainFor_of_name rfl) (Nat.le_of_ble_eq_true rfl) (m_all rfl) (ls := [_, _, _]) rfl ?_
  refine mJ_iload_n dX8_fault_0 rfl ?_
  refine mJ_iconst (v := 0) dX8_fault_1 rfl ?_
  refine mJ_iconst (v := 1) dX8_fault_2 rfl ?_
  refine mJ_cS3i dX8_fault_3 e_X8_in n_X8_32 ⟨Nat.le_of_ble_eq_true rfl, Nat.le_of_ble_eq_true rfl⟩ (Nat.le_of_ble_eq_true rfl) (C_X8_in) ?_
  refine mJ_b2i (fun b_3 => ?_) (fun b_3 => ?_)
  · exact False.elim (by exact hb b_3)
  · refine mJ_if_ne 13 dX8_fault_6 rfl (fun c => absurd c (by decide)) (fun _ => ?_)
    refine mJ_sipush (v := (-10001)) dX8_fault_9 rfl ?_
    exact mJ_iret dX8_fault_12 rfl (rfl) (rfl)
theorem fP_n {f : aF} {n nH : Nat} (hn : n ≤ 60) : ∀ (m p : Nat), (fP (xF f n nH m p) = -10004 ↔ xF f n nH m p = none)
  | 0, p => ⟨fun _ => rfl, fun _ => rfl⟩
  | m + 1, p => by
    by_cases g0 : n ≤ p
    · rw [xF_e g0]; exact ⟨fun _ => rfl, fun _ => rfl⟩
    · by_cases g : xR f n nH p = 0
      · rw [xF_g g0 g]; exact fP_n hn m _
      · rw [xF_b g0 rfl g]
        exact ⟨fun z => absurd z (nI_neg1b (by omega)), fun z => by cases z⟩
set_option maxHeartbeats 4000000 in
set_option maxRecDepth 100000 in
theorem C_X8_fault_0 {d was text ord why son tri : aF} {sta at_ sig fst snd rea lef top shf arr goo shn trs : Int32} {n nH : Nat} (hn : n ≤ 60) (h50 : d 50 = nI nH) (hl : nH ≤ 12) : ∃ at' sig' fst' snd' rea' : Int32, mCt k_X8_fault [.ref 0, .int 0] (mH d was sta text (nI n) at_ sig fst snd rea lef top shf arr goo ord why son shn tri trs) (some (.int (fP (xF text n nH 60 0)))) (mH d was sta text (nI n) (at') (sig') (fst') (snd') (rea') lef top shf arr goo ord why son shn tri trs) := by
  obtain ⟨v1, v2, v3, v4, v5, hj, hz⟩ := C_X8_faulty (d := d) (was := was) (sta := sta) (text := text) (at_ := at_) (sig := sig) (fst := fst) (snd := snd) (rea := rea) (lef := lef) (top := top) (shf := shf) (arr := arr) (goo := goo) (ord := ord) (why := why) (son := son) (shn := shn) (tri := tri) (trs := trs) hn h50 hl
  refine ⟨v1, v2, v3, v4, v5, ?_⟩
  refine mCt_intro (plainFor_of_name rfl) (Nat.le_of_ble_eq_true rfl) (m_all rfl) (ls := [_, _, _]) rfl ?_
  refine mJ_iload_n dX8_fault_0 rfl ?_
  refine mJ_iconst (v := 0) dX8_fault_1 rfl ?_
  refine mJ_iconst (v := 1) dX8_fault_2 rfl ?_
  refine mJ_cS3i dX8_fault_3 e_X8_in n_X8_32 ⟨Nat.le_of_ble_eq_true rfl, Nat.le_of_ble_eq_true rfl⟩ (Nat.le_of_ble_eq_true rfl) (C_X8_in) ?_
  refine mJ_top (b2i_t ⟨by decide, by decide⟩) ?_
  refine mJ_if_ne 13 dX8_fault_6 rfl (fun _ => ?_) (fun c => absurd c (by decide))
  refine mJ_aload_n dX8_fault_13 rfl ?_
  refine mJ_cV0i dX8_fault_14 e_X8_faulty n_X8_191 ⟨Nat.le_of_ble_eq_true rfl, Nat.le_of_ble_eq_true rfl⟩ rfl rfl (Nat.le_of_ble_eq_true rfl) (hj) ?_
  refine mJ_istore_n dX8_fault_17 (Nat.le_of_ble_eq_true rfl) (ls2 := [_, _, _]) rfl ?_
  refine mJ_iload_n dX8_fault_18 rfl ?_
  refine mJ_sipush (v := (-10004)) dX8_fault_19 rfl ?_
  refine mJ_icmp_eq 29 dX8_fault_22 rfl (fun c_22 => ?_) (fun c_22 => ?_)
  · refine mJ_iload_n dX8_fault_29 rfl ?_
    refine mJ_goto 37 dX8_fault_30 rfl ?_
    exact mJ_iret dX8_fault_37 rfl (rfl) (rfl)
  · refine mJ_iload_n dX8_fault_25 rfl ?_
    refine mJ_if_ne 33 dX8_fault_26 rfl (fun c => absurd c (by decide)) (fun _ => ?_)
    refine mJ_iload_n dX8_fault_29 rfl ?_
    refine mJ_goto 37 dX8_fault_30 rfl ?_
    exact mJ_iret dX8_fault_37 rfl (rfl) (rfl)
set_option maxHeartbeats 4000000 in
set_option maxRecDepth 100000 in
theorem C_X8_fault_1 {d was text ord why son tri : aF} {sta at_ sig fst snd rea lef top shf arr goo shn trs : Int32} {n nH : Nat} (hn : n ≤ 60) (h50 : d 50 = nI nH) (hl : nH ≤ 12) : ∃ at' sig' fst' snd' rea' : Int32, mCt k_X8_fault [.ref 0, .int 1] (mH d was sta text (nI n) at_ sig fst snd rea lef top shf arr goo ord why son shn tri trs) (some (.int (if xF text n nH 60 0 = none then -10004 else fR (xF text n nH 60 0)))) (mH d was sta text (nI n) (at') (sig') (fst') (snd') (rea') lef top shf arr goo ord why son shn tri trs) := by
  obtain ⟨v1, v2, v3, v4, v5, hj, hz⟩ := C_X8_faulty (d := d) (was := was) (sta := sta) (text := text) (at_ := at_) (sig := sig) (fst := fst) (snd := snd) (rea := rea) (lef := lef) (top := top) (shf := shf) (arr := arr) (goo := goo) (ord := ord) (why := why) (son := son) (shn := shn) (tri := tri) (trs := trs) hn h50 hl
  refine ⟨v1, v2, v3, v4, v5, ?_⟩
  refine mCt_intro (plainFor_of_name rfl) (Nat.le_of_ble_eq_true rfl) (m_all rfl) (ls := [_, _, _]) rfl ?_
  refine mJ_iload_n dX8_fault_0 rfl ?_
  refine mJ_iconst (v := 0) dX8_fault_1 rfl ?_
  refine mJ_iconst (v := 1) dX8_fault_2 rfl ?_
  refine mJ_cS3i dX8_fault_3 e_X8_in n_X8_32 ⟨Nat.le_of_ble_eq_true rfl, Nat.le_of_ble_eq_true rfl⟩ (Nat.le_of_ble_eq_true rfl) (C_X8_in) ?_
  refine mJ_top (b2i_t ⟨by decide, by decide⟩) ?_
  refine mJ_if_ne 13 dX8_fault_6 rfl (fun _ => ?_) (fun c => absurd c (by decide))
  refine mJ_aload_n dX8_fault_13 rfl ?_
  refine mJ_cV0i dX8_fault_14 e_X8_faulty n_X8_191 ⟨Nat.le_of_ble_eq_true rfl, Nat.le_of_ble_eq_true rfl⟩ rfl rfl (Nat.le_of_ble_eq_true rfl) (hj) ?_
  refine mJ_istore_n dX8_fault_17 (Nat.le_of_ble_eq_true rfl) (ls2 := [_, _, _]) rfl ?_
  refine mJ_iload_n dX8_fault_18 rfl ?_
  refine mJ_sipush (v := (-10004)) dX8_fault_19 rfl ?_
  refine mJ_icmp_eq 29 dX8_fault_22 rfl (fun c_22 => ?_) (fun c_22 => ?_)
  · refine mJ_iload_n dX8_fault_29 rfl ?_
    refine mJ_goto 37 dX8_fault_30 rfl ?_
    exact mJ_iret dX8_fault_37 rfl (by rw [if_pos ((fP_n hn 60 0).mp c_22), c_22]) (rfl)
  · refine mJ_iload_n dX8_fault_25 rfl ?_
    refine mJ_if_ne 33 dX8_fault_26 rfl (fun _ => ?_) (fun c => absurd c (by decide))
    refine mJ_aload_n dX8_fault_33 rfl ?_
    refine mJ_get dX8_fault_34 f_X8_185 rfl rfl ?_
    exact mJ_iret dX8_fault_37 rfl (by
    cases h : xF text n nH 60 0 with
    | none => exact absurd ((fP_n hn 60 0).mpr h) c_22
    | some y => obtain ⟨pos, r⟩ := y; rw [if_neg (fun z => by cases z), hz pos r h]; rfl) (rfl)
