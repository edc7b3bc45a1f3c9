/-! THE LAW'S holds -/
theorem cP_t {P : Nat → Prop} {k : Nat} (h : P k) : cP P k + 1 = cP P (k + 1) := (iif_t h).symm
theorem cP_f {P : Nat → Prop} {k : Nat} (h : ¬ P k) : cP P k + 0 = cP P (k + 1) := by
  rw [Int32.add_zero]
  exact (iif_f h).symm
theorem aT_first {d on : aF} {x y : Int32} {h : Nat} : ∀ {m k : Nat}, k ≤ h → h < k + m → (∀ o, k ≤ o → o < h → ¬ (¬ on o = -1 ∧ q_mt x y 1 1 (p_x d o (on o)) (p_y d o (on o)) (dH d o 1) (dH d o 2))) → (¬ on h = -1 ∧ q_mt x y 1 1 (p_x d h (on h)) (p_y d h (on h)) (dH d h 1) (dH d h 2)) → aT d on x y m k = nI h
  | 0, k, h1, h2, _, _ => absurd h2 (by omega)
  | m + 1, k, h1, h2, h3, h4 => by
    unfold aT
    by_cases e : k = h
    · subst e
      exact iif_t h4
    · rw [iif_f (h3 k (Nat.le_refl _) (by omega))]
      exact aT_first (by omega) (by omega) (fun o o1 o2 => h3 o (by omega) o2) h4
theorem mt_Z {x y w h ox oy ow oh : Int} (x1 : -20000 ≤ x ∧ x ≤ 20000) (y1 : -20000 ≤ y ∧ y ≤ 20000) (w1 : 0 ≤ w ∧ w ≤ 1000) (h1 : 0 ≤ h ∧ h ≤ 1000) (ox1 : -20000 ≤ ox ∧ ox ≤ 20000) (oy1 : -20000 ≤ oy ∧ oy ≤ 20000) (ow1 : 0 ≤ ow ∧ ow ≤ 1000) (oh1 : 0 ≤ oh ∧ oh ≤ 1000) : q_mt (iZ x) (iZ y) (iZ w) (iZ h) (iZ ox) (iZ oy) (iZ ow) (iZ oh) ↔ ((x < ox + ow ∧ ox < x + w) ∧ y < oy + oh ∧ oy < y + h) := by
  unfold q_mt
  rw [iZ_add, iZ_add, iZ_add, iZ_add, iZ_leI (by omega) (by omega) (by omega) (by omega), iZ_leI (by omega) (by omega) (by omega) (by omega), iZ_leI (by omega) (by omega) (by omega) (by omega), iZ_leI (by omega) (by omega) (by omega) (by omega)]
  omega
theorem pt_sep {x y w t X Y U V : Int32} (hx : iR x (-8000) 8000) (hy : iR y (-8000) 8000) (hw : iR w 1 200) (ht : iR t 1 200) (hX : iR X (-8000) 8000) (hY : iR Y (-8000) 8000) (hU : iR U 1 200) (hV : iR V 1 200) : (¬ q_mt x y w t X Y U V → ¬ q_mt x y 1 1 X Y U V ∧ ¬ q_mt (x + w - 1) (y + t - 1) 1 1 X Y U V) ∧ q_mt x y 1 1 x y w t ∧ q_mt (x + w - 1) (y + t - 1) 1 1 x y w t := by
  obtain ⟨x', rfl, x1, x2⟩ := iR_ex hx
  obtain ⟨y', rfl, y1, y2⟩ := iR_ex hy
  obtain ⟨w', rfl, w1, w2⟩ := iR_ex hw
  obtain ⟨t', rfl, t1, t2⟩ := iR_ex ht
  obtain ⟨X', rfl, X1, X2⟩ := iR_ex hX
  obtain ⟨Y', rfl, Y1, Y2⟩ := iR_ex hY
  obtain ⟨U', rfl, U1, U2⟩ := iR_ex hU
  obtain ⟨V', rfl, V1, V2⟩ := iR_ex hV
  rw [show (1 : Int32) = iZ 1 from rfl, iZ_add, iZ_sub, iZ_add, iZ_sub]
  rw [mt_Z (by omega) (by omega) (by omega) (by omega) (by omega) (by omega) (by omega) (by omega), mt_Z (by omega) (by omega) (by omega) (by omega) (by omega) (by omega) (by omega) (by omega), mt_Z (by omega) (by omega) (by omega) (by omega) (by omega) (by omega) (by omega) (by omega), mt_Z (by omega) (by omega) (by omega) (by omega) (by omega) (by omega) (by omega) (by omega), mt_Z (by omega) (by omega) (by omega) (by omega) (by omega) (by omega) (by omega) (by omega)]
  omega
theorem in_R {d : aF} {nA nH nO : Nat} (hw : wD d nA nH nO) (hR : wR d nA nH) {h : Nat} (hh : h < nH) {s : Int32} (hp : p_in d h s) : iR (p_x d h s) (-2000) 2400 ∧ iR (p_y d h s) (-2000) 2400 ∧ iR (p_x d h s + dH d h 1 - 1) (-2000) 2400 ∧ iR (p_y d h s + dH d h 2 - 1) (-2000) 2400 := by
  obtain ⟨-, -, -, -, rx, ry⟩ := p_R hw hR hh s
  obtain ⟨H1, H2, -⟩ := hR.2.1 h hh
  obtain ⟨R4, R5, -, -, -, R0, R1, R2, R3⟩ := hR.2.2
  unfold p_in q_sl at hp
  generalize p_x d h s = x at *
  generalize p_y d h s = y at *
  generalize dH d h 1 = w at *
  generalize dH d h 2 = t at *
  generalize d 0 = e0 at *
  generalize d 1 = e1 at *
  generalize d 2 = e2 at *
  generalize d 3 = e3 at *
  obtain ⟨x', rfl, x1, x2⟩ := iR_ex rx
  obtain ⟨y', rfl, y1, y2⟩ := iR_ex ry
  obtain ⟨w', rfl, w1, w2⟩ := iR_ex H1
  obtain ⟨t', rfl, t1, t2⟩ := iR_ex H2
  obtain ⟨a0, rfl, a1, a2⟩ := iR_ex R0
  obtain ⟨b0, rfl, b1, b2⟩ := iR_ex R1
  obtain ⟨c0, rfl, c1, c2⟩ := iR_ex R2
  obtain ⟨f0, rfl, f1, f2⟩ := iR_ex R3
  rw [iZ_add, iZ_add, iZ_add, iZ_add, iZ_ltI (by omega) (by omega) (by omega) (by omega), iZ_ltI (by omega) (by omega) (by omega) (by omega), iZ_ltI (by omega) (by omega) (by omega) (by omega), iZ_ltI (by omega) (by omega) (by omega) (by omega)] at hp
  rw [show (1 : Int32) = iZ 1 from rfl, iZ_add, iZ_sub, iZ_add, iZ_sub]
  exact ⟨iR_Z (by omega) (by omega) (by omega) (by omega), iR_Z (by omega) (by omega) (by omega) (by omega), iR_Z (by omega) (by omega) (by omega) (by omega), iR_Z (by omega) (by omega) (by omega) (by omega)⟩
theorem q_in_R {x f : Int32} {lo hi F : Int} (h : iR x lo hi) (hf : f.toInt = F) (hn : (-f).toInt = -F) (h1 : -F ≤ lo) (h2 : hi ≤ F) : q_in x f := by
  unfold q_in
  rw [Int32.lt_iff_toInt_lt, Int32.lt_iff_toInt_lt, hf, hn]
  have := h.1
  have := h.2
  omega
theorem lnr {d : aF} {h : Nat} {s : Int32} (hs : sd s) : (¬ s - s / 2 * 2 = 0 → p_ln d h s = dH d h 2) ∧ (s - s / 2 * 2 = 0 → p_ln d h s = dH d h 1) := by
  unfold p_ln
  rcases hs with rfl | rfl | rfl | rfl
  · exact ⟨fun z => absurd (by decide) z, fun _ => iif_lv0⟩
  · exact ⟨fun _ => iif_lv1, fun z => absurd z (by decide)⟩
  · exact ⟨fun z => absurd (by decide) z, fun _ => iif_lv2⟩
  · exact ⟨fun _ => iif_lv3, fun z => absurd z (by decide)⟩
theorem sd_pos {s : Int32} (h : sd s) : ¬ s < 0 := by rcases h with rfl | rfl | rfl | rfl <;> decide
theorem cN_split {P Q R : Nat → Prop} : ∀ {n : Nat}, (∀ o, o < n → (R o ↔ (P o ∨ Q o))) → (∀ o, o < n → ¬ (P o ∧ Q o)) → cN R n = cN P n + cN Q n
  | 0, _, _ => rfl
  | n + 1, h1, h2 => by
    have ih := cN_split (n := n) (fun o ho => h1 o (by omega)) (fun o ho => h2 o (by omega))
    have a := h1 n (by omega)
    have b := h2 n (by omega)
    unfold cN
    by_cases p : P n
    · have q : ¬ Q n := fun q => b ⟨p, q⟩
      rw [iif_t (a.mpr (Or.inl p)), iif_t p, iif_f q]
      omega
    · by_cases q : Q n
      · rw [iif_t (a.mpr (Or.inr q)), iif_f p, iif_t q]
        omega
      · rw [iif_f (fun z => (a.mp z).elim p q), iif_f p, iif_f q]
        exact ih
theorem cN_T {P : Nat → Prop} : ∀ {n : Nat}, (∀ o, o < n → P o) → cN P n = n
  | 0, _ => rfl
  | n + 1, h => by
    unfold cN
    rw [iif_t (h n (by omega)), cN_T (fun o ho => h o (by omega))]
/-- a hint's anchor is one of the first k -/
def uA (d : aF) (k o : Nat) : Prop := ∃ i, i < k ∧ dH d o 0 = nI i
theorem uA_s {d : aF} {k o : Nat} : uA d (k + 1) o ↔ (uA d k o ∨ dH d o 0 = nI k) := by
  constructor
  · rintro ⟨i, hi, e⟩
    by_cases q : i = k
    · subst q; exact Or.inr e
    · exact Or.inl ⟨i, by omega, e⟩
  · rintro (⟨i, hi, e⟩ | e)
    · exact ⟨i, by omega, e⟩
    · exact ⟨k, by omega, e⟩
theorem uA_no {d : aF} {k o : Nat} (hk : k < 1000) : ¬ (uA d k o ∧ dH d o 0 = nI k) := by
  rintro ⟨⟨i, hi, e⟩, e2⟩
  rw [e] at e2
  have := (nI_eq (by omega) (by omega)).mp e2
  omega
theorem hv_s {d : aF} {k n : Nat} (hk : k < 1000) : nI (cN (uA d k) n) + cP (fun o => dH d o 0 = nI k) n = nI (cN (uA d (k + 1)) n) := by
  rw [cP_nI, nI_add, ← cN_split (R := uA d (k + 1)) (fun o _ => uA_s) (fun o _ => uA_no hk)]
theorem sn_s {d on : aF} {k n : Nat} (hk : k < 1000) : nI (cN (fun o => uA d k o ∧ ¬ on o = -1) n) + cP (fun o => dH d o 0 = nI k ∧ ¬ on o = -1) n = nI (cN (fun o => uA d (k + 1) o ∧ ¬ on o = -1) n) := by
  rw [cP_nI, nI_add, ← cN_split (R := fun o => uA d (k + 1) o ∧ ¬ on o = -1) (fun o _ => ?_) (fun o _ z => uA_no hk ⟨z.1.1, z.2.1⟩)]
  rw [uA_s]
  constructor
  · rintro ⟨a | a, b⟩
    · exact Or.inl ⟨a, b⟩
    · exact Or.inr ⟨a, b⟩
  · rintro (⟨a, b⟩ | ⟨a, b⟩)
    · exact ⟨Or.inl a, b⟩
    · exact ⟨Or.inr a, b⟩
theorem uA_0 {d : aF} {o : Nat} : ¬ uA d 0 o := fun ⟨i, hi, _⟩ => absurd hi (by omega)
theorem at_me {C : aF} {RS SD XS YS : aF} {shn : Int32} {d : aF} {nA nH nO B : Nat} (Z : zO C d RS SD XS YS shn nA nH nO B) {h : Nat} (hh : h < nH) (gs : ¬ (p_all d nA nH nO).2.1 h = -1) : aT d (p_all d nA nH nO).2.1 (p_x d h ((p_all d nA nH nO).2.1 h)) (p_y d h ((p_all d nA nH nO).2.1 h)) nH 0 = nI h ∧ aT d (p_all d nA nH nO).2.1 (p_x d h ((p_all d nA nH nO).2.1 h) + dH d h 1 - 1) (p_y d h ((p_all d nA nH nO).2.1 h) + dH d h 2 - 1) nH 0 = nI h := by
  obtain ⟨hw, hR, hi⟩ := zO_w Z
  obtain ⟨F1, F2, F3, F4, -⟩ := p_facts hw hi hR
  obtain ⟨-, -, -, -, rx, ry⟩ := p_R hw hR hh ((p_all d nA nH nO).2.1 h)
  obtain ⟨H1, H2, -⟩ := hR.2.1 h hh
  have own := (pt_sep rx ry H1 H2 rx ry H1 H2).2
  have no : ∀ o, 0 ≤ o → o < h → ¬ (p_all d nA nH nO).2.1 o = -1 → ¬ q_mt (p_x d h ((p_all d nA nH nO).2.1 h)) (p_y d h ((p_all d nA nH nO).2.1 h)) 1 1 (p_x d o ((p_all d nA nH nO).2.1 o)) (p_y d o ((p_all d nA nH nO).2.1 o)) (dH d o 1) (dH d o 2) ∧ ¬ q_mt (p_x d h ((p_all d nA nH nO).2.1 h) + dH d h 1 - 1) (p_y d h ((p_all d nA nH nO).2.1 h) + dH d h 2 - 1) 1 1 (p_x d o ((p_all d nA nH nO).2.1 o)) (p_y d o ((p_all d nA nH nO).2.1 o)) (dH d o 1) (dH d o 2) := fun o _ ho go => by
    have ho' : o < nH := by omega
    obtain ⟨-, -, -, -, sx, sy⟩ := p_R hw hR ho' ((p_all d nA nH nO).2.1 o)
    obtain ⟨K1, K2, -⟩ := hR.2.1 o ho'
    exact (pt_sep rx ry H1 H2 sx sy K1 K2).1 (F3 h o hh ho' (by omega) gs go)
  exact ⟨aT_first (Nat.zero_le _) (by omega) (fun o o1 o2 z => (no o o1 o2 z.1).1 z.2) ⟨gs, own.1⟩, aT_first (Nat.zero_le _) (by omega) (fun o o1 o2 z => (no o o1 o2 z.1).2 z.2) ⟨gs, own.2⟩⟩
set_option maxHeartbeats 4000000 in
set_option maxRecDepth 100000 in
theorem L_holds_a {C W : aF} {o n : Nat} {RS SD XS YS OR : aF} {shn : Int32} {T1 : tT} {P1 : tP} {Od : tO} {T2 : tT} {d : aF} {nA nH nO B : Nat} (Z : zO C d RS SD XS YS shn nA nH nO B) : ∀ (m a : Nat) (hv sn : Int32) (x7 x8 x9 x10 x11 x12 : Value) (P2 : tP), a + m = nA → hv = nI (cN (uA d a) nH) → sn = nI (cN (fun o => uA d a o ∧ ¬ (p_all d nA nH nO).2.1 o = -1) nH) → mJ k_L_holds 681 [.ref 0, .int (cP (fun o => ¬ (p_all d nA nH nO).2.1 o = -1) nH), .int (cP (fun o => o ∈ ordL d nO) nH), .int 1, .int hv, .int sn, .int (nI a), x7, x8, x9, x10, x11, x12] [] (cH C (W, nI o, nI n) (RS, SD, XS, YS, OR, shn) T1 P1 Od T2 (P2)) (some (.int 1)) (cH C (W, nI o, nI n) (RS, SD, XS, YS, OR, shn) T1 P1 Od T2 (P2)) := by
  obtain ⟨hw, hR, hi⟩ := zO_w Z
  have lA := hw.1
  intro m
  induction m with
  | zero =>
    intro a hv sn x7 x8 x9 x10 x11 x12 P2 hm e1 e2
    obtain rfl : a = nA := by omega
    have f1 : hv = nI nH := by rw [e1, cN_T (P := uA d a) (fun o ho => hw.2.2.2.2.2.2.1 o ho)]
    have f2 : sn = cP (fun o => ¬ (p_all d a nH nO).2.1 o = -1) nH := by
      rw [e2, cP_nI]
      congr 1
      exact cN_congr (fun o ho => ⟨fun z => z.2, fun z => ⟨hw.2.2.2.2.2.2.1 o ho, z⟩⟩)
    have f6 : nI nO = cP (fun o => o ∈ ordL d nO) nH := by rw [cP_nI, cN_mem (ordL d nO) (ordL_nodup hi) (fun x hx => ordL_mem hw hx), ordL_len]
    have f7 : (p_all d a nH nO).2.2 = cP (fun o => ¬ (p_all d a nH nO).2.1 o = -1) nH := p_all_cnt hw hi
    refine mJ_iload dL_holds_681 rfl ?_
    refine mJ_aload_n dL_holds_683 rfl ?_
    refine mJ_iconst (v := 4) dL_holds_684 rfl ?_
    refine mJ_cV1i dL_holds_685 e_X7_count n_L_9 ⟨Nat.le_of_ble_eq_true rfl, Nat.le_of_ble_eq_true rfl⟩ rfl rfl (Nat.le_of_ble_eq_true rfl) (Q_count_4 Z) ?_
    refine mJ_icmp_ge 722 dL_holds_688 rfl (fun c_688 => ?_) (fun c_688 => False.elim (by exact c_688 (nI_le (Nat.le_refl _) (by omega))))
    refine mJ_iload_n dL_holds_722 rfl ?_
    refine mJ_if_eq 766 dL_holds_723 rfl (fun c => absurd c (by decide)) (fun _ => ?_)
    refine mJ_iload_n dL_holds_726 rfl ?_
    refine mJ_aload_n dL_holds_727 rfl ?_
    refine mJ_bipush (v := 6) dL_holds_728 rfl ?_
    refine mJ_cV1i dL_holds_730 e_X7_count n_L_9 ⟨Nat.le_of_ble_eq_true rfl, Nat.le_of_ble_eq_true rfl⟩ rfl rfl (Nat.le_of_ble_eq_true rfl) (mCt_val f6 (Q_count_6 Z)) ?_
    refine mJ_icmp_ne 766 dL_holds_733 rfl (fun c_733 => False.elim (by exact c_733 rfl)) (fun c_733 => ?_)
    refine mJ_iload_n dL_holds_736 rfl ?_
    refine mJ_aload_n dL_holds_737 rfl ?_
    refine mJ_bipush (v := 7) dL_holds_738 rfl ?_
    refine mJ_cV1i dL_holds_740 e_X7_count n_L_9 ⟨Nat.le_of_ble_eq_true rfl, Nat.le_of_ble_eq_true rfl⟩ rfl rfl (Nat.le_of_ble_eq_true rfl) (mCt_val f7 (Q_count_7 Z)) ?_
    refine mJ_icmp_ne 766 dL_holds_743 rfl (fun c_743 => False.elim (by exact c_743 rfl)) (fun c_743 => ?_)
    refine mJ_iload dL_holds_746 rfl ?_
    refine mJ_aload_n dL_holds_748 rfl ?_
    refine mJ_iconst (v := 5) dL_holds_749 rfl ?_
    refine mJ_cV1i dL_holds_750 e_X7_count n_L_9 ⟨Nat.le_of_ble_eq_true rfl, Nat.le_of_ble_eq_true rfl⟩ rfl rfl (Nat.le_of_ble_eq_true rfl) (Q_count_5 Z) ?_
    refine mJ_icmp_ne 766 dL_holds_753 rfl (fun c_753 => False.elim (by exact c_753 f1)) (fun c_753 => ?_)
    refine mJ_iload dL_holds_756 rfl ?_
    refine mJ_iload_n dL_holds_758 rfl ?_
    refine mJ_icmp_ne 766 dL_holds_759 rfl (fun c_759 => False.elim (by exact c_759 f2)) (fun c_759 => ?_)
    refine mJ_iconst (v := 1) dL_holds_762 rfl ?_
    refine mJ_goto 767 dL_holds_763 rfl ?_
    exact mJ_zret dL_holds_767 rfl (Or.inr rfl) (rfl) (rfl)
  | succ m ih =>
    intro a hv sn x7 x8 x9 x10 x11 x12 P2 hm e1 e2
    have ha : a < nA := by omega
    have hk := ih (a + 1) (hv + cP (fun o => dH d o 0 = nI a) nH) (sn + cP (fun o => dH d o 0 = nI a ∧ ¬ (p_all d nA nH nO).2.1 o = -1) nH) x7 x8 x9 x10 x11 x12 P2 (by omega) (by rw [e1]; exact hv_s (by omega)) (by rw [e2]; exact sn_s (by omega))
    refine mJ_iload dL_holds_681 rfl ?_
    refine mJ_aload_n dL_holds_683 rfl ?_
    refine mJ_iconst (v := 4) dL_holds_684 rfl ?_
    refine mJ_cV1i dL_holds_685 e_X7_count n_L_9 ⟨Nat.le_of_ble_eq_true rfl, Nat.le_of_ble_eq_true rfl⟩ rfl rfl (Nat.le_of_ble_eq_true rfl) (Q_count_4 Z) ?_
    refine mJ_icmp_ge 722 dL_holds_688 rfl (fun c_688 => False.elim (by exact nI_ge ha (by omega) c_688)) (fun c_688 => ?_)
    refine mJ_iload dL_holds_691 rfl ?_
    refine mJ_aload_n dL_holds_693 rfl ?_
    refine mJ_iload dL_holds_694 rfl ?_
    refine mJ_iconst (v := 5) dL_holds_696 rfl ?_
    refine mJ_cV2i dL_holds_697 e_X7_anchorOf n_L_19 ⟨Nat.le_of_ble_eq_true rfl, Nat.le_of_ble_eq_true rfl⟩ rfl rfl (Nat.le_of_ble_eq_true rfl) (Q_anchor_5 Z ha) ?_
    refine mJ_iadd dL_holds_700 ?_
    refine mJ_istore dL_holds_701 (Nat.le_of_ble_eq_true rfl) (ls2 := [_, _, _, _, _, _, _, _, _, _, _, _, _]) rfl ?_
    refine mJ_iload dL_holds_703 rfl ?_
    refine mJ_aload_n dL_holds_705 rfl ?_
    refine mJ_iload dL_holds_706 rfl ?_
    refine mJ_bipush (v := 6) dL_holds_708 rfl ?_
    refine mJ_cV2i dL_holds_710 e_X7_anchorOf n_L_19 ⟨Nat.le_of_ble_eq_true rfl, Nat.le_of_ble_eq_true rfl⟩ rfl rfl (Nat.le_of_ble_eq_true rfl) (Q_anchor_6 Z ha) ?_
    refine mJ_iadd dL_holds_713 ?_
    refine mJ_istore dL_holds_714 (Nat.le_of_ble_eq_true rfl) (ls2 := [_, _, _, _, _, _, _, _, _, _, _, _, _]) rfl ?_
    refine mJ_iinc dL_holds_716 rfl (Nat.le_of_ble_eq_true rfl) (v := nI (a + 1)) (nI_1 a) (ls2 := [_, _, _, _, _, _, _, _, _, _, _, _, _]) rfl ?_
    refine mJ_goto 681 dL_holds_719 rfl ?_
    exact hk
set_option maxHeartbeats 4000000 in
set_option maxRecDepth 100000 in
theorem L_holds_i {C W : aF} {o n : Nat} {RS SD XS YS OR : aF} {shn : Int32} {T1 : tT} {P1 : tP} {Od : tO} {T2 : tT} {d : aF} {nA nH nO B : Nat} (Z : zO C d RS SD XS YS shn nA nH nO B) {h : Nat} (hh : h < nH) (gs : ¬ (p_all d nA nH nO).2.1 h = -1) {v1 v2 : Int32} (kk : ∀ (P2 : tP) (x11 x12 : Value), ∃ P2' : tP, mJ k_L_holds 666 [.ref 0, .int v1, .int v2, .int 1, .int (nI h), .int 0, .int ((p_all d nA nH nO).2.1 h), .int (p_x d h ((p_all d nA nH nO).2.1 h)), .int (p_y d h ((p_all d nA nH nO).2.1 h)), .int (dH d h 1), .int (dH d h 2), x11, x12] [] (cH C (W, nI o, nI n) (RS, SD, XS, YS, OR, shn) T1 P1 Od T2 (P2)) (some (.int 1)) (cH C (W, nI o, nI n) (RS, SD, XS, YS, OR, shn) T1 P1 Od T2 (P2'))) : ∀ (m j : Nat) (P2 : tP) (x12 : Value), j + m = h → ∃ P2' : tP, mJ k_L_holds 554 [.ref 0, .int v1, .int v2, .int 1, .int (nI h), .int 0, .int ((p_all d nA nH nO).2.1 h), .int (p_x d h ((p_all d nA nH nO).2.1 h)), .int (p_y d h ((p_all d nA nH nO).2.1 h)), .int (dH d h 1), .int (dH d h 2), .int (nI j), x12] [] (cH C (W, nI o, nI n) (RS, SD, XS, YS, OR, shn) T1 P1 Od T2 (P2)) (some (.int 1)) (cH C (W, nI o, nI n) (RS, SD, XS, YS, OR, shn) T1 P1 Od T2 (P2')) := by
  obtain ⟨hw, hR, hi⟩ := zO_w Z
  obtain ⟨F1, F2, F3, F4, -⟩ := p_facts hw hi hR
  have lH := hw.2.1
  intro m
  induction m with
  | zero =>
    intro j P2 x12 hj
    obtain rfl : j = h := by omega
    obtain ⟨P3, hk⟩ := kk P2 (.int (nI j)) x12
    refine ⟨P3, ?_⟩
    refine mJ_iload dL_holds_554 rfl ?_
    refine mJ_iload dL_holds_556 rfl ?_
    refine mJ_icmp_ge 666 dL_holds_558 rfl (fun c_558 => ?_) (fun c_558 => False.elim (by exact c_558 (nI_le (Nat.le_refl _) (by omega))))
    exact hk
  | succ m ih =>
    intro j P2 x12 hj
    have hjh : j < h := by omega
    have hjH : j < nH := by omega
    by_cases gj : (p_all d nA nH nO).2.1 j = -1
    · have wj : 0 < (p_all d nA nH nO).1 j := by
        rcases F2 j gj with e | ⟨e, -⟩ | e | e | ⟨e, -⟩ <;> rw [e] <;> decide
      obtain ⟨P3, hk⟩ := ih (j + 1) P2 (.int 1) (by omega)
      refine ⟨P3, ?_⟩
      refine mJ_iload dL_holds_554 rfl ?_
      refine mJ_iload dL_holds_556 rfl ?_
      refine mJ_icmp_ge 666 dL_holds_558 rfl (fun c_558 => False.elim (by exact nI_ge hjh (by omega) c_558)) (fun c_558 => ?_)
      refine mJ_iload_n dL_holds_561 rfl ?_
      refine mJ_if_eq 666 dL_holds_562 rfl (fun c => absurd c (by decide)) (fun _ => ?_)
      refine mJ_aload_n dL_holds_565 rfl ?_
      refine mJ_iload dL_holds_566 rfl ?_
      refine mJ_bipush (v := 8) dL_holds_568 rfl ?_
      refine mJ_cV2i dL_holds_570 e_X7_hintOf n_L_15 ⟨Nat.le_of_ble_eq_true rfl, Nat.le_of_ble_eq_true rfl⟩ rfl rfl (Nat.le_of_ble_eq_true rfl) (Q_hint_8 Z hjH) ?_
      refine mJ_if_gt 650 dL_holds_573 rfl (fun c_573 => ?_) (fun c_573 => False.elim (by exact c_573 wj))
      refine mJ_iconst (v := 1) dL_holds_650 rfl ?_
      refine mJ_goto 655 dL_holds_651 rfl ?_
      refine mJ_istore dL_holds_655 (Nat.le_of_ble_eq_true rfl) (ls2 := [_, _, _, _, _, _, _, _, _, _, _, _, _]) rfl ?_
      refine mJ_iload dL_holds_657 rfl ?_
      refine mJ_istore_n dL_holds_659 (Nat.le_of_ble_eq_true rfl) (ls2 := [_, _, _, _, _, _, _, _, _, _, _, _, _]) rfl ?_
      refine mJ_iinc dL_holds_660 rfl (Nat.le_of_ble_eq_true rfl) (v := nI (j + 1)) (nI_1 j) (ls2 := [_, _, _, _, _, _, _, _, _, _, _, _, _]) rfl ?_
      refine mJ_goto 554 dL_holds_663 rfl ?_
      exact hk
    · have wj : (p_all d nA nH nO).1 j = 0 := (F1 j gj).2.1
      have dis := F3 h j hh hjH (by omega) gs gj
      obtain ⟨P3, hk⟩ := ih (j + 1) (fP C d nA nH nO j) (.int 1) (by omega)
      refine ⟨P3, ?_⟩
      refine mJ_iload dL_holds_554 rfl ?_
      refine mJ_iload dL_holds_556 rfl ?_
      refine mJ_icmp_ge 666 dL_holds_558 rfl (fun c_558 => False.elim (by exact nI_ge hjh (by omega) c_558)) (fun c_558 => ?_)
      refine mJ_iload_n dL_holds_561 rfl ?_
      refine mJ_if_eq 666 dL_holds_562 rfl (fun c => absurd c (by decide)) (fun _ => ?_)
      refine mJ_aload_n dL_holds_565 rfl ?_
      refine mJ_iload dL_holds_566 rfl ?_
      refine mJ_bipush (v := 8) dL_holds_568 rfl ?_
      refine mJ_cV2i dL_holds_570 e_X7_hintOf n_L_15 ⟨Nat.le_of_ble_eq_true rfl, Nat.le_of_ble_eq_true rfl⟩ rfl rfl (Nat.le_of_ble_eq_true rfl) (mCt_val wj (Q_hint_8 Z hjH)) ?_
      refine mJ_if_gt 650 dL_holds_573 rfl (fun c => absurd c (by decide)) (fun _ => ?_)
      refine mJ_aload_n dL_holds_576 rfl ?_
      refine mJ_iload dL_holds_577 rfl ?_
      refine mJ_bipush (v := 10) dL_holds_579 rfl ?_
      refine mJ_cV2i dL_holds_581 e_X7_hintOf n_L_15 ⟨Nat.le_of_ble_eq_true rfl, Nat.le_of_ble_eq_true rfl⟩ rfl rfl (Nat.le_of_ble_eq_true rfl) (Q_hint_10 Z hjH gj) ?_
      refine mJ_iload dL_holds_584 rfl ?_
      refine mJ_iload dL_holds_586 rfl ?_
      refine mJ_iadd dL_holds_588 ?_
      refine mJ_icmp_ge 650 dL_holds_589 rfl (fun c_589 => ?_) (fun c_589 => ?_)
      · refine mJ_iconst (v := 1) dL_holds_650 rfl ?_
        refine mJ_goto 655 dL_holds_651 rfl ?_
        refine mJ_istore dL_holds_655 (Nat.le_of_ble_eq_true rfl) (ls2 := [_, _, _, _, _, _, _, _, _, _, _, _, _]) rfl ?_
        refine mJ_iload dL_holds_657 rfl ?_
        refine mJ_istore_n dL_holds_659 (Nat.le_of_ble_eq_true rfl) (ls2 := [_, _, _, _, _, _, _, _, _, _, _, _, _]) rfl ?_
        refine mJ_iinc dL_holds_660 rfl (Nat.le_of_ble_eq_true rfl) (v := nI (j + 1)) (nI_1 j) (ls2 := [_, _, _, _, _, _, _, _, _, _, _, _, _]) rfl ?_
        refine mJ_goto 554 dL_holds_663 rfl ?_
        exact hk
      · refine mJ_aload_n dL_holds_592 rfl ?_
        refine mJ_iload dL_holds_593 rfl ?_
        refine mJ_bipush (v := 10) dL_holds_595 rfl ?_
        refine mJ_cV2i dL_holds_597 e_X7_hintOf n_L_15 ⟨Nat.le_of_ble_eq_true rfl, Nat.le_of_ble_eq_true rfl⟩ rfl rfl (Nat.le_of_ble_eq_true rfl) (Q_hint_10 Z hjH gj) ?_
        refine mJ_aload_n dL_holds_600 rfl ?_
        refine mJ_iload dL_holds_601 rfl ?_
        refine mJ_iconst (v := 1) dL_holds_603 rfl ?_
        refine mJ_cV2i dL_holds_604 e_X7_hintOf n_L_15 ⟨Nat.le_of_ble_eq_true rfl, Nat.le_of_ble_eq_true rfl⟩ rfl rfl (Nat.le_of_ble_eq_true rfl) (Q_hint_1 Z hjH) ?_
        refine mJ_iadd dL_holds_607 ?_
        refine mJ_iload dL_holds_608 rfl ?_
        refine mJ_icmp_le 650 dL_holds_610 rfl (fun c_610 => ?_) (fun c_610 => ?_)
        · refine mJ_iconst (v := 1) dL_holds_650 rfl ?_
          refine mJ_goto 655 dL_holds_651 rfl ?_
          refine mJ_istore dL_holds_655 (Nat.le_of_ble_eq_true rfl) (ls2 := [_, _, _, _, _, _, _, _, _, _, _, _, _]) rfl ?_
          refine mJ_iload dL_holds_657 rfl ?_
          refine mJ_istore_n dL_holds_659 (Nat.le_of_ble_eq_true rfl) (ls2 := [_, _, _, _, _, _, _, _, _, _, _, _, _]) rfl ?_
          refine mJ_iinc dL_holds_660 rfl (Nat.le_of_ble_eq_true rfl) (v := nI (j + 1)) (nI_1 j) (ls2 := [_, _, _, _, _, _, _, _, _, _, _, _, _]) rfl ?_
          refine mJ_goto 554 dL_holds_663 rfl ?_
          exact hk
        · refine mJ_aload_n dL_holds_613 rfl ?_
          refine mJ_iload dL_holds_614 rfl ?_
          refine mJ_bipush (v := 11) dL_holds_616 rfl ?_
          refine mJ_cV2i dL_holds_618 e_X7_hintOf n_L_15 ⟨Nat.le_of_ble_eq_true rfl, Nat.le_of_ble_eq_true rfl⟩ rfl rfl (Nat.le_of_ble_eq_true rfl) (Q_hint_11 Z hjH gj) ?_
          refine mJ_iload dL_holds_621 rfl ?_
          refine mJ_iload dL_holds_623 rfl ?_
          refine mJ_iadd dL_holds_625 ?_
          refine mJ_icmp_ge 650 dL_holds_626 rfl (fun c_626 => ?_) (fun c_626 => ?_)
          · refine mJ_iconst (v := 1) dL_holds_650 rfl ?_
            refine mJ_goto 655 dL_holds_651 rfl ?_
            refine mJ_istore dL_holds_655 (Nat.le_of_ble_eq_true rfl) (ls2 := [_, _, _, _, _, _, _, _, _, _, _, _, _]) rfl ?_
            refine mJ_iload dL_holds_657 rfl ?_
            refine mJ_istore_n dL_holds_659 (Nat.le_of_ble_eq_true rfl) (ls2 := [_, _, _, _, _, _, _, _, _, _, _, _, _]) rfl ?_
            refine mJ_iinc dL_holds_660 rfl (Nat.le_of_ble_eq_true rfl) (v := nI (j + 1)) (nI_1 j) (ls2 := [_, _, _, _, _, _, _, _, _, _, _, _, _]) rfl ?_
            refine mJ_goto 554 dL_holds_663 rfl ?_
            exact hk
          · refine mJ_aload_n dL_holds_629 rfl ?_
            refine mJ_iload dL_holds_630 rfl ?_
            refine mJ_bipush (v := 11) dL_holds_632 rfl ?_
            refine mJ_cV2i dL_holds_634 e_X7_hintOf n_L_15 ⟨Nat.le_of_ble_eq_true rfl, Nat.le_of_ble_eq_true rfl⟩ rfl rfl (Nat.le_of_ble_eq_true rfl) (Q_hint_11 Z hjH gj) ?_
            refine mJ_aload_n dL_holds_637 rfl ?_
            refine mJ_iload dL_holds_638 rfl ?_
            refine mJ_iconst (v := 2) dL_holds_640 rfl ?_
            refine mJ_cV2i dL_holds_641 e_X7_hintOf n_L_15 ⟨Nat.le_of_ble_eq_true rfl, Nat.le_of_ble_eq_true rfl⟩ rfl rfl (Nat.le_of_ble_eq_true rfl) (Q_hint_2 Z hjH) ?_
            refine mJ_iadd dL_holds_644 ?_
            refine mJ_iload dL_holds_645 rfl ?_
            refine mJ_icmp_gt 654 dL_holds_647 rfl (fun c_647 => False.elim (by exact dis ⟨⟨Int32.not_le.mpr (Int32.not_le.mp c_610), c_589⟩, Int32.not_le.mpr c_647, c_626⟩)) (fun c_647 => ?_)
            refine mJ_iconst (v := 1) dL_holds_650 rfl ?_
            refine mJ_goto 655 dL_holds_651 rfl ?_
            refine mJ_istore dL_holds_655 (Nat.le_of_ble_eq_true rfl) (ls2 := [_, _, _, _, _, _, _, _, _, _, _, _, _]) rfl ?_
            refine mJ_iload dL_holds_657 rfl ?_
            refine mJ_istore_n dL_holds_659 (Nat.le_of_ble_eq_true rfl) (ls2 := [_, _, _, _, _, _, _, _, _, _, _, _, _]) rfl ?_
            refine mJ_iinc dL_holds_660 rfl (Nat.le_of_ble_eq_true rfl) (v := nI (j + 1)) (nI_1 j) (ls2 := [_, _, _, _, _, _, _, _, _, _, _, _, _]) rfl ?_
            refine mJ_goto 554 dL_holds_663 rfl ?_
            exact hk
set_option maxHeartbeats 4000000 in
set_option maxRecDepth 100000 in
theorem L_holds_o {C W : aF} {o n : Nat} {RS SD XS YS OR : aF} {shn : Int32} {T1 : tT} {P1 : tP} {Od : tO} {T2 : tT} {d : aF} {nA nH nO B : Nat} (Z : zO C d RS SD XS YS shn nA nH nO B) : ∀ (m h : Nat) (v1 v2 : Int32) (x5 x6 x7 x8 x9 x10 x11 x12 : Value) (P2 : tP), h + m = nH → v1 = cP (fun o => ¬ (p_all d nA nH nO).2.1 o = -1) h → v2 = cP (fun o => o ∈ ordL d nO) h → ∃ P2' : tP, mJ k_L_holds 43 [.ref 0, .int v1, .int v2, .int 1, .int (nI h), x5, x6, x7, x8, x9, x10, x11, x12] [] (cH C (W, nI o, nI n) (RS, SD, XS, YS, OR, shn) T1 P1 Od T2 (P2)) (some (.int 1)) (cH C (W, nI o, nI n) (RS, SD, XS, YS, OR, shn) T1 P1 Od T2 (P2')) := by
  obtain ⟨hw, hR, hi⟩ := zO_w Z
  obtain ⟨F1, F2, F3, F4, c, q, f1, f2, f3, f4, f5, f6, f7⟩ := p_facts hw hi hR
  have lH := hw.2.1
  intro m
  induction m with
  | zero =>
    intro h v1 v2 x5 x6 x7 x8 x9 x10 x11 x12 P2 hm e1 e2
    obtain rfl : h = nH := by omega
    subst e1
    subst e2
    refine ⟨P2, ?_⟩
    refine mJ_iload dL_holds_43 rfl ?_
    refine mJ_aload_n dL_holds_45 rfl ?_
    refine mJ_iconst (v := 5) dL_holds_46 rfl ?_
    refine mJ_cV1i dL_holds_47 e_X7_count n_L_9 ⟨Nat.le_of_ble_eq_true rfl, Nat.le_of_ble_eq_true rfl⟩ rfl rfl (Nat.le_of_ble_eq_true rfl) (Q_count_5 Z) ?_
    refine mJ_icmp_ge 672 dL_holds_50 rfl (fun c_50 => ?_) (fun c_50 => False.elim (by exact c_50 (nI_le (Nat.le_refl _) (by omega))))
    refine mJ_iconst (v := 0) dL_holds_672 rfl ?_
    refine mJ_istore dL_holds_673 (Nat.le_of_ble_eq_true rfl) (ls2 := [_, _, _, _, _, _, _, _, _, _, _, _, _]) rfl ?_
    refine mJ_iconst (v := 0) dL_holds_675 rfl ?_
    refine mJ_istore dL_holds_676 (Nat.le_of_ble_eq_true rfl) (ls2 := [_, _, _, _, _, _, _, _, _, _, _, _, _]) rfl ?_
    refine mJ_iconst (v := 0) dL_holds_678 rfl ?_
    refine mJ_istore dL_holds_679 (Nat.le_of_ble_eq_true rfl) (ls2 := [_, _, _, _, _, _, _, _, _, _, _, _, _]) rfl ?_
    exact L_holds_a Z nA 0 0 0 x7 x8 x9 x10 x11 x12 P2 (by omega) (by rw [cN_F (fun o => uA_0)]; rfl) (by rw [cN_F (fun o z => uA_0 z.1)]; rfl)
  | succ m ih =>
    intro h v1 v2 x5 x6 x7 x8 x9 x10 x11 x12 P2 hm e1 e2
    have hh : h < nH := by omega
    by_cases gs : (p_all d nA nH nO).2.1 h = -1
    · have s1 : v1 + 0 = cP (fun o => ¬ (p_all d nA nH nO).2.1 o = -1) (h + 1) := by rw [e1]; exact cP_f (fun z => z gs)
      rcases F2 h gs with e | ⟨e, g⟩ | e | e | ⟨e, g⟩
      · have gk : ¬ h ∈ ordL d nO := (F4 h).mp e
        have s2 : v2 + 0 = cP (fun o => o ∈ ordL d nO) (h + 1) := by rw [e2]; exact cP_f gk
        obtain ⟨P3, hk⟩ := ih (h + 1) (v1 + 0) (v2 + 0) (.int 1) (.int (-10004)) x7 x8 x9 x10 x11 x12 P2 (by omega) s1 s2
        refine ⟨P3, ?_⟩
        refine mJ_iload dL_holds_43 rfl ?_
        refine mJ_aload_n dL_holds_45 rfl ?_
        refine mJ_iconst (v := 5) dL_holds_46 rfl ?_
        refine mJ_cV1i dL_holds_47 e_X7_count n_L_9 ⟨Nat.le_of_ble_eq_true rfl, Nat.le_of_ble_eq_true rfl⟩ rfl rfl (Nat.le_of_ble_eq_true rfl) (Q_count_5 Z) ?_
        refine mJ_icmp_ge 672 dL_holds_50 rfl (fun c_50 => False.elim (by exact nI_ge hh (by omega) c_50)) (fun c_50 => ?_)
        refine mJ_iload_n dL_holds_53 rfl ?_
        refine mJ_if_eq 672 dL_holds_54 rfl (fun c => absurd c (by decide)) (fun _ => ?_)
        refine mJ_aload_n dL_holds_57 rfl ?_
        refine mJ_iload dL_holds_58 rfl ?_
        refine mJ_bipush (v := 8) dL_holds_60 rfl ?_
        refine mJ_cV2i dL_holds_62 e_X7_hintOf n_L_15 ⟨Nat.le_of_ble_eq_true rfl, Nat.le_of_ble_eq_true rfl⟩ rfl rfl (Nat.le_of_ble_eq_true rfl) (mCt_val e (Q_hint_8 Z hh)) ?_
        refine mJ_istore dL_holds_65 (Nat.le_of_ble_eq_true rfl) (ls2 := [_, _, _, _, _, _, _, _, _, _, _, _, _]) rfl ?_
        refine mJ_aload_n dL_holds_67 rfl ?_
        refine mJ_iload dL_holds_68 rfl ?_
        refine mJ_bipush (v := 9) dL_holds_70 rfl ?_
        refine mJ_cV2i dL_holds_72 e_X7_hintOf n_L_15 ⟨Nat.le_of_ble_eq_true rfl, Nat.le_of_ble_eq_true rfl⟩ rfl rfl (Nat.le_of_ble_eq_true rfl) (Q_hint_9n Z hh gs) ?_
        refine mJ_istore dL_holds_75 (Nat.le_of_ble_eq_true rfl) (ls2 := [_, _, _, _, _, _, _, _, _, _, _, _, _]) rfl ?_
        refine mJ_iload_n dL_holds_77 rfl ?_
        refine mJ_iload dL_holds_78 rfl ?_
        refine mJ_iconst (v := 1) dL_holds_80 rfl ?_
        refine mJ_icmp_ne 88 dL_holds_81 rfl (fun c => absurd c (by decide)) (fun _ => ?_)
        refine mJ_iconst (v := 0) dL_holds_84 rfl ?_
        refine mJ_goto 89 dL_holds_85 rfl ?_
        refine mJ_iadd dL_holds_89 ?_
        refine mJ_istore_n dL_holds_90 (Nat.le_of_ble_eq_true rfl) (ls2 := [_, _, _, _, _, _, _, _, _, _, _, _, _]) rfl ?_
        refine mJ_iload_n dL_holds_91 rfl ?_
        refine mJ_iload dL_holds_92 rfl ?_
        refine mJ_if_ne 101 dL_holds_94 rfl (fun _ => ?_) (fun c => absurd c (by decide))
        refine mJ_iconst (v := 0) dL_holds_101 rfl ?_
        refine mJ_iadd dL_holds_102 ?_
        refine mJ_istore_n dL_holds_103 (Nat.le_of_ble_eq_true rfl) (ls2 := [_, _, _, _, _, _, _, _, _, _, _, _, _]) rfl ?_
        refine mJ_iload dL_holds_104 rfl ?_
        refine mJ_if_ne 113 dL_holds_106 rfl (fun _ => ?_) (fun c => absurd c (by decide))
        refine mJ_iconst (v := 0) dL_holds_113 rfl ?_
        refine mJ_iload dL_holds_114 rfl ?_
        refine mJ_if_lt 123 dL_holds_116 rfl (fun _ => ?_) (fun c => absurd c (by decide))
        refine mJ_iconst (v := 0) dL_holds_123 rfl ?_
        refine mJ_icmp_ne 212 dL_holds_124 rfl (fun c => absurd c (by decide)) (fun _ => ?_)
        refine mJ_iload dL_holds_127 rfl ?_
        refine mJ_iconst (v := 1) dL_holds_129 rfl ?_
        refine mJ_icmp_ne 137 dL_holds_130 rfl (fun c => absurd c (by decide)) (fun _ => ?_)
        refine mJ_iconst (v := 1) dL_holds_133 rfl ?_
        refine mJ_goto 138 dL_holds_134 rfl ?_
        refine mJ_aload_n dL_holds_138 rfl ?_
        refine mJ_iload dL_holds_139 rfl ?_
        refine mJ_bipush (v := 16) dL_holds_141 rfl ?_
        refine mJ_cV2i dL_holds_143 e_X7_hintOf n_L_15 ⟨Nat.le_of_ble_eq_true rfl, Nat.le_of_ble_eq_true rfl⟩ rfl rfl (Nat.le_of_ble_eq_true rfl) (mCt_val (iO_no gk) (Q_hint_16 Z hh)) ?_
        refine mJ_sipush (v := (-10004)) dL_holds_146 rfl ?_
        refine mJ_icmp_ne 156 dL_holds_149 rfl (fun c => absurd c (by decide)) (fun _ => ?_)
        refine mJ_iconst (v := 1) dL_holds_152 rfl ?_
        refine mJ_goto 157 dL_holds_153 rfl ?_
        refine mJ_icmp_ne 212 dL_holds_157 rfl (fun c => absurd c (by decide)) (fun _ => ?_)
        refine mJ_iload dL_holds_160 rfl ?_
        refine mJ_iconst (v := 5) dL_holds_162 rfl ?_
        refine mJ_icmp_ne 181 dL_holds_163 rfl (fun _ => ?_) (fun c => absurd c (by decide))
        refine mJ_iload dL_holds_181 rfl ?_
        refine mJ_iconst (v := 2) dL_holds_183 rfl ?_
        refine mJ_icmp_gt 208 dL_holds_184 rfl (fun c => absurd c (by decide)) (fun _ => ?_)
        refine mJ_iload dL_holds_187 rfl ?_
        refine mJ_iconst (v := 2) dL_holds_189 rfl ?_
        refine mJ_icmp_lt 208 dL_holds_190 rfl (fun _ => ?_) (fun c => absurd c (by decide))
        refine mJ_iconst (v := 1) dL_holds_208 rfl ?_
        refine mJ_goto 213 dL_holds_209 rfl ?_
        refine mJ_istore_n dL_holds_213 (Nat.le_of_ble_eq_true rfl) (ls2 := [_, _, _, _, _, _, _, _, _, _, _, _, _]) rfl ?_
        refine mJ_iload_n dL_holds_214 rfl ?_
        refine mJ_if_eq 666 dL_holds_215 rfl (fun c => absurd c (by decide)) (fun _ => ?_)
        refine mJ_iload dL_holds_218 rfl ?_
        refine mJ_if_ne 666 dL_holds_220 rfl (fun _ => ?_) (fun c => absurd c (by decide))
        refine mJ_iinc dL_holds_666 rfl (Nat.le_of_ble_eq_true rfl) (v := nI (h + 1)) (nI_1 h) (ls2 := [_, _, _, _, _, _, _, _, _, _, _, _, _]) rfl ?_
        refine mJ_goto 43 dL_holds_669 rfl ?_
        exact hk
      · obtain ⟨a, ha, ea⟩ := hw.2.2.2.2.2.2.1 h hh
        have g0 : b2i (q_sn d a) = 0 := b2i_f (by rw [p_an_of ea (Nat.lt_of_lt_of_le ha hw.1)] at g; exact g)
        have gk : h ∈ ordL d nO := Classical.byContradiction (fun z => absurd ((F4 h).mpr z) (by rw [e]; decide))
        obtain ⟨i, hi2⟩ := List.getElem?_of_mem gk
        have li : i < nO := by have := (List.getElem?_eq_some_iff.mp hi2).1; rw [ordL_len] at this; exact this
        have s2 : v2 + 1 = cP (fun o => o ∈ ordL d nO) (h + 1) := by rw [e2]; exact cP_t gk
        have lO := hw.2.2.1
        obtain ⟨P3, hk⟩ := ih (h + 1) (v1 + 0) (v2 + 1) (.int 2) (.int (-10004)) x7 x8 x9 x10 x11 x12 P2 (by omega) s1 s2
        refine ⟨P3, ?_⟩
        refine mJ_iload dL_holds_43 rfl ?_
        refine mJ_aload_n dL_holds_45 rfl ?_
        refine mJ_iconst (v := 5) dL_holds_46 rfl ?_
        refine mJ_cV1i dL_holds_47 e_X7_count n_L_9 ⟨Nat.le_of_ble_eq_true rfl, Nat.le_of_ble_eq_true rfl⟩ rfl rfl (Nat.le_of_ble_eq_true rfl) (Q_count_5 Z) ?_
        refine mJ_icmp_ge 672 dL_holds_50 rfl (fun c_50 => False.elim (by exact nI_ge hh (by omega) c_50)) (fun c_50 => ?_)
        refine mJ_iload_n dL_holds_53 rfl ?_
        refine mJ_if_eq 672 dL_holds_54 rfl (fun c => absurd c (by decide)) (fun _ => ?_)
        refine mJ_aload_n dL_holds_57 rfl ?_
        refine mJ_iload dL_holds_58 rfl ?_
        refine mJ_bipush (v := 8) dL_holds_60 rfl ?_
        refine mJ_cV2i dL_holds_62 e_X7_hintOf n_L_15 ⟨Nat.le_of_ble_eq_true rfl, Nat.le_of_ble_eq_true rfl⟩ rfl rfl (Nat.le_of_ble_eq_true rfl) (mCt_val e (Q_hint_8 Z hh)) ?_
        refine mJ_istore dL_holds_65 (Nat.le_of_ble_eq_true rfl) (ls2 := [_, _, _, _, _, _, _, _, _, _, _, _, _]) rfl ?_
        refine mJ_aload_n dL_holds_67 rfl ?_
        refine mJ_iload dL_holds_68 rfl ?_
        refine mJ_bipush (v := 9) dL_holds_70 rfl ?_
        refine mJ_cV2i dL_holds_72 e_X7_hintOf n_L_15 ⟨Nat.le_of_ble_eq_true rfl, Nat.le_of_ble_eq_true rfl⟩ rfl rfl (Nat.le_of_ble_eq_true rfl) (Q_hint_9n Z hh gs) ?_
        refine mJ_istore dL_holds_75 (Nat.le_of_ble_eq_true rfl) (ls2 := [_, _, _, _, _, _, _, _, _, _, _, _, _]) rfl ?_
        refine mJ_iload_n dL_holds_77 rfl ?_
        refine mJ_iload dL_holds_78 rfl ?_
        refine mJ_iconst (v := 1) dL_holds_80 rfl ?_
        refine mJ_icmp_ne 88 dL_holds_81 rfl (fun _ => ?_) (fun c => absurd c (by decide))
        refine mJ_iconst (v := 1) dL_holds_88 rfl ?_
        refine mJ_iadd dL_holds_89 ?_
        refine mJ_istore_n dL_holds_90 (Nat.le_of_ble_eq_true rfl) (ls2 := [_, _, _, _, _, _, _, _, _, _, _, _, _]) rfl ?_
        refine mJ_iload_n dL_holds_91 rfl ?_
        refine mJ_iload dL_holds_92 rfl ?_
        refine mJ_if_ne 101 dL_holds_94 rfl (fun _ => ?_) (fun c => absurd c (by decide))
        refine mJ_iconst (v := 0) dL_holds_101 rfl ?_
        refine mJ_iadd dL_holds_102 ?_
        refine mJ_istore_n dL_holds_103 (Nat.le_of_ble_eq_true rfl) (ls2 := [_, _, _, _, _, _, _, _, _, _, _, _, _]) rfl ?_
        refine mJ_iload dL_holds_104 rfl ?_
        refine mJ_if_ne 113 dL_holds_106 rfl (fun _ => ?_) (fun c => absurd c (by decide))
        refine mJ_iconst (v := 0) dL_holds_113 rfl ?_
        refine mJ_iload dL_holds_114 rfl ?_
        refine mJ_if_lt 123 dL_holds_116 rfl (fun _ => ?_) (fun c => absurd c (by decide))
        refine mJ_iconst (v := 0) dL_holds_123 rfl ?_
        refine mJ_icmp_ne 212 dL_holds_124 rfl (fun c => absurd c (by decide)) (fun _ => ?_)
        refine mJ_iload dL_holds_127 rfl ?_
        refine mJ_iconst (v := 1) dL_holds_129 rfl ?_
        refine mJ_icmp_ne 137 dL_holds_130 rfl (fun _ => ?_) (fun c => absurd c (by decide))
        refine mJ_iconst (v := 0) dL_holds_137 rfl ?_
        refine mJ_aload_n dL_holds_138 rfl ?_
        refine mJ_iload dL_holds_139 rfl ?_
        refine mJ_bipush (v := 16) dL_holds_141 rfl ?_
        refine mJ_cV2i dL_holds_143 e_X7_hintOf n_L_15 ⟨Nat.le_of_ble_eq_true rfl, Nat.le_of_ble_eq_true rfl⟩ rfl rfl (Nat.le_of_ble_eq_true rfl) (mCt_val ((iO_at (ordL_nodup hi) hi2).trans (by rw [Nat.zero_add])) (Q_hint_16 Z hh)) ?_
        refine mJ_sipush (v := (-10004)) dL_holds_146 rfl ?_
        refine mJ_icmp_ne 156 dL_holds_149 rfl (fun c_149 => ?_) (fun c_149 => False.elim (by exact nI_neg1b (by omega) c_149))
        refine mJ_iconst (v := 0) dL_holds_156 rfl ?_
        refine mJ_icmp_ne 212 dL_holds_157 rfl (fun c => absurd c (by decide)) (fun _ => ?_)
        refine mJ_iload dL_holds_160 rfl ?_
        refine mJ_iconst (v := 5) dL_holds_162 rfl ?_
        refine mJ_icmp_ne 181 dL_holds_163 rfl (fun _ => ?_) (fun c => absurd c (by decide))
        refine mJ_iload dL_holds_181 rfl ?_
        refine mJ_iconst (v := 2) dL_holds_183 rfl ?_
        refine mJ_icmp_gt 208 dL_holds_184 rfl (fun c => absurd c (by decide)) (fun _ => ?_)
        refine mJ_iload dL_holds_187 rfl ?_
        refine mJ_iconst (v := 2) dL_holds_189 rfl ?_
        refine mJ_icmp_lt 208 dL_holds_190 rfl (fun c => absurd c (by decide)) (fun _ => ?_)
        refine mJ_aload_n dL_holds_193 rfl ?_
        refine mJ_aload_n dL_holds_194 rfl ?_
        refine mJ_iload dL_holds_195 rfl ?_
        refine mJ_iconst (v := 0) dL_holds_197 rfl ?_
        refine mJ_cV2i dL_holds_198 e_X7_hintOf n_L_15 ⟨Nat.le_of_ble_eq_true rfl, Nat.le_of_ble_eq_true rfl⟩ rfl rfl (Nat.le_of_ble_eq_true rfl) (mCt_val ea (Q_hint_0 Z hh)) ?_
        refine mJ_iconst (v := 4) dL_holds_201 rfl ?_
        refine mJ_cV2i dL_holds_202 e_X7_anchorOf n_L_19 ⟨Nat.le_of_ble_eq_true rfl, Nat.le_of_ble_eq_true rfl⟩ rfl rfl (Nat.le_of_ble_eq_true rfl) (mCt_val g0 (Q_anchor_4 Z ha)) ?_
        refine mJ_if_ne 212 dL_holds_205 rfl (fun c => absurd c (by decide)) (fun _ => ?_)
        refine mJ_iconst (v := 1) dL_holds_208 rfl ?_
        refine mJ_goto 213 dL_holds_209 rfl ?_
        refine mJ_istore_n dL_holds_213 (Nat.le_of_ble_eq_true rfl) (ls2 := [_, _, _, _, _, _, _, _, _, _, _, _, _]) rfl ?_
        refine mJ_iload_n dL_holds_214 rfl ?_
        refine mJ_if_eq 666 dL_holds_215 rfl (fun c => absurd c (by decide)) (fun _ => ?_)
        refine mJ_iload dL_holds_218 rfl ?_
        refine mJ_if_ne 666 dL_holds_220 rfl (fun _ => ?_) (fun c => absurd c (by decide))
        refine mJ_iinc dL_holds_666 rfl (Nat.le_of_ble_eq_true rfl) (v := nI (h + 1)) (nI_1 h) (ls2 := [_, _, _, _, _, _, _, _, _, _, _, _, _]) rfl ?_
        refine mJ_goto 43 dL_holds_669 rfl ?_
        exact hk
      · have gk : h ∈ ordL d nO := Classical.byContradiction (fun z => absurd ((F4 h).mpr z) (by rw [e]; decide))
        obtain ⟨i, hi2⟩ := List.getElem?_of_mem gk
        have li : i < nO := by have := (List.getElem?_eq_some_iff.mp hi2).1; rw [ordL_len] at this; exact this
        have s2 : v2 + 1 = cP (fun o => o ∈ ordL d nO) (h + 1) := by rw [e2]; exact cP_t gk
        have lO := hw.2.2.1
        obtain ⟨P3, hk⟩ := ih (h + 1) (v1 + 0) (v2 + 1) (.int 3) (.int (-10004)) x7 x8 x9 x10 x11 x12 P2 (by omega) s1 s2
        refine ⟨P3, ?_⟩
        refine mJ_iload dL_holds_43 rfl ?_
        refine mJ_aload_n dL_holds_45 rfl ?_
        refine mJ_iconst (v := 5) dL_holds_46 rfl ?_
        refine mJ_cV1i dL_holds_47 e_X7_count n_L_9 ⟨Nat.le_of_ble_eq_true rfl, Nat.le_of_ble_eq_true rfl⟩ rfl rfl (Nat.le_of_ble_eq_true rfl) (Q_count_5 Z) ?_
        refine mJ_icmp_ge 672 dL_holds_50 rfl (fun c_50 => False.elim (by exact nI_ge hh (by omega) c_50)) (fun c_50 => ?_)
        refine mJ_iload_n dL_holds_53 rfl ?_
        refine mJ_if_eq 672 dL_holds_54 rfl (fun c => absurd c (by decide)) (fun _ => ?_)
        refine mJ_aload_n dL_holds_57 rfl ?_
        refine mJ_iload dL_holds_58 rfl ?_
        refine mJ_bipush (v := 8) dL_holds_60 rfl ?_
        refine mJ_cV2i dL_holds_62 e_X7_hintOf n_L_15 ⟨Nat.le_of_ble_eq_true rfl, Nat.le_of_ble_eq_true rfl⟩ rfl rfl (Nat.le_of_ble_eq_true rfl) (mCt_val e (Q_hint_8 Z hh)) ?_
        refine mJ_istore dL_holds_65 (Nat.le_of_ble_eq_true rfl) (ls2 := [_, _, _, _, _, _, _, _, _, _, _, _, _]) rfl ?_
        refine mJ_aload_n dL_holds_67 rfl ?_
        refine mJ_iload dL_holds_68 rfl ?_
        refine mJ_bipush (v := 9) dL_holds_70 rfl ?_
        refine mJ_cV2i dL_holds_72 e_X7_hintOf n_L_15 ⟨Nat.le_of_ble_eq_true rfl, Nat.le_of_ble_eq_true rfl⟩ rfl rfl (Nat.le_of_ble_eq_true rfl) (Q_hint_9n Z hh gs) ?_
        refine mJ_istore dL_holds_75 (Nat.le_of_ble_eq_true rfl) (ls2 := [_, _, _, _, _, _, _, _, _, _, _, _, _]) rfl ?_
        refine mJ_iload_n dL_holds_77 rfl ?_
        refine mJ_iload dL_holds_78 rfl ?_
        refine mJ_iconst (v := 1) dL_holds_80 rfl ?_
        refine mJ_icmp_ne 88 dL_holds_81 rfl (fun _ => ?_) (fun c => absurd c (by decide))
        refine mJ_iconst (v := 1) dL_holds_88 rfl ?_
        refine mJ_iadd dL_holds_89 ?_
        refine mJ_istore_n dL_holds_90 (Nat.le_of_ble_eq_true rfl) (ls2 := [_, _, _, _, _, _, _, _, _, _, _, _, _]) rfl ?_
        refine mJ_iload_n dL_holds_91 rfl ?_
        refine mJ_iload dL_holds_92 rfl ?_
        refine mJ_if_ne 101 dL_holds_94 rfl (fun _ => ?_) (fun c => absurd c (by decide))
        refine mJ_iconst (v := 0) dL_holds_101 rfl ?_
        refine mJ_iadd dL_holds_102 ?_
        refine mJ_istore_n dL_holds_103 (Nat.le_of_ble_eq_true rfl) (ls2 := [_, _, _, _, _, _, _, _, _, _, _, _, _]) rfl ?_
        refine mJ_iload dL_holds_104 rfl ?_
        refine mJ_if_ne 113 dL_holds_106 rfl (fun _ => ?_) (fun c => absurd c (by decide))
        refine mJ_iconst (v := 0) dL_holds_113 rfl ?_
        refine mJ_iload dL_holds_114 rfl ?_
        refine mJ_if_lt 123 dL_holds_116 rfl (fun _ => ?_) (fun c => absurd c (by decide))
        refine mJ_iconst (v := 0) dL_holds_123 rfl ?_
        refine mJ_icmp_ne 212 dL_holds_124 rfl (fun c => absurd c (by decide)) (fun _ => ?_)
        refine mJ_iload dL_holds_127 rfl ?_
        refine mJ_iconst (v := 1) dL_holds_129 rfl ?_
        refine mJ_icmp_ne 137 dL_holds_130 rfl (fun _ => ?_) (fun c => absurd c (by decide))
        refine mJ_iconst (v := 0) dL_holds_137 rfl ?_
        refine mJ_aload_n dL_holds_138 rfl ?_
        refine mJ_iload dL_holds_139 rfl ?_
        refine mJ_bipush (v := 16) dL_holds_141 rfl ?_
        refine mJ_cV2i dL_holds_143 e_X7_hintOf n_L_15 ⟨Nat.le_of_ble_eq_true rfl, Nat.le_of_ble_eq_true rfl⟩ rfl rfl (Nat.le_of_ble_eq_true rfl) (mCt_val ((iO_at (ordL_nodup hi) hi2).trans (by rw [Nat.zero_add])) (Q_hint_16 Z hh)) ?_
        refine mJ_sipush (v := (-10004)) dL_holds_146 rfl ?_
        refine mJ_icmp_ne 156 dL_holds_149 rfl (fun c_149 => ?_) (fun c_149 => False.elim (by exact nI_neg1b (by omega) c_149))
        refine mJ_iconst (v := 0) dL_holds_156 rfl ?_
        refine mJ_icmp_ne 212 dL_holds_157 rfl (fun c => absurd c (by decide)) (fun _ => ?_)
        refine mJ_iload dL_holds_160 rfl ?_
        refine mJ_iconst (v := 5) dL_holds_162 rfl ?_
        refine mJ_icmp_ne 181 dL_holds_163 rfl (fun _ => ?_) (fun c => absurd c (by decide))
        refine mJ_iload dL_holds_181 rfl ?_
        refine mJ_iconst (v := 2) dL_holds_183 rfl ?_
        refine mJ_icmp_gt 208 dL_holds_184 rfl (fun _ => ?_) (fun c => absurd c (by decide))
        refine mJ_iconst (v := 1) dL_holds_208 rfl ?_
        refine mJ_goto 213 dL_holds_209 rfl ?_
        refine mJ_istore_n dL_holds_213 (Nat.le_of_ble_eq_true rfl) (ls2 := [_, _, _, _, _, _, _, _, _, _, _, _, _]) rfl ?_
        refine mJ_iload_n dL_holds_214 rfl ?_
        refine mJ_if_eq 666 dL_holds_215 rfl (fun c => absurd c (by decide)) (fun _ => ?_)
        refine mJ_iload dL_holds_218 rfl ?_
        refine mJ_if_ne 666 dL_holds_220 rfl (fun _ => ?_) (fun c => absurd c (by decide))
        refine mJ_iinc dL_holds_666 rfl (Nat.le_of_ble_eq_true rfl) (v := nI (h + 1)) (nI_1 h) (ls2 := [_, _, _, _, _, _, _, _, _, _, _, _, _]) rfl ?_
        refine mJ_goto 43 dL_holds_669 rfl ?_
        exact hk
      · have gk : h ∈ ordL d nO := Classical.byContradiction (fun z => absurd ((F4 h).mpr z) (by rw [e]; decide))
        obtain ⟨i, hi2⟩ := List.getElem?_of_mem gk
        have li : i < nO := by have := (List.getElem?_eq_some_iff.mp hi2).1; rw [ordL_len] at this; exact this
        have s2 : v2 + 1 = cP (fun o => o ∈ ordL d nO) (h + 1) := by rw [e2]; exact cP_t gk
        have lO := hw.2.2.1
        obtain ⟨P3, hk⟩ := ih (h + 1) (v1 + 0) (v2 + 1) (.int 4) (.int (-10004)) x7 x8 x9 x10 x11 x12 P2 (by omega) s1 s2
        refine ⟨P3, ?_⟩
        refine mJ_iload dL_holds_43 rfl ?_
        refine mJ_aload_n dL_holds_45 rfl ?_
        refine mJ_iconst (v := 5) dL_holds_46 rfl ?_
        refine mJ_cV1i dL_holds_47 e_X7_count n_L_9 ⟨Nat.le_of_ble_eq_true rfl, Nat.le_of_ble_eq_true rfl⟩ rfl rfl (Nat.le_of_ble_eq_true rfl) (Q_count_5 Z) ?_
        refine mJ_icmp_ge 672 dL_holds_50 rfl (fun c_50 => False.elim (by exact nI_ge hh (by omega) c_50)) (fun c_50 => ?_)
        refine mJ_iload_n dL_holds_53 rfl ?_
        refine mJ_if_eq 672 dL_holds_54 rfl (fun c => absurd c (by decide)) (fun _ => ?_)
        refine mJ_aload_n dL_holds_57 rfl ?_
        refine mJ_iload dL_holds_58 rfl ?_
        refine mJ_bipush (v := 8) dL_holds_60 rfl ?_
        refine mJ_cV2i dL_holds_62 e_X7_hintOf n_L_15 ⟨Nat.le_of_ble_eq_true rfl, Nat.le_of_ble_eq_true rfl⟩ rfl rfl (Nat.le_of_ble_eq_true rfl) (mCt_val e (Q_hint_8 Z hh)) ?_
        refine mJ_istore dL_holds_65 (Nat.le_of_ble_eq_true rfl) (ls2 := [_, _, _, _, _, _, _, _, _, _, _, _, _]) rfl ?_
        refine mJ_aload_n dL_holds_67 rfl ?_
        refine mJ_iload dL_holds_68 rfl ?_
        refine mJ_bipush (v := 9) dL_holds_70 rfl ?_
        refine mJ_cV2i dL_holds_72 e_X7_hintOf n_L_15 ⟨Nat.le_of_ble_eq_true rfl, Nat.le_of_ble_eq_true rfl⟩ rfl rfl (Nat.le_of_ble_eq_true rfl) (Q_hint_9n Z hh gs) ?_
        refine mJ_istore dL_holds_75 (Nat.le_of_ble_eq_true rfl) (ls2 := [_, _, _, _, _, _, _, _, _, _, _, _, _]) rfl ?_
        refine mJ_iload_n dL_holds_77 rfl ?_
        refine mJ_iload dL_holds_78 rfl ?_
        refine mJ_iconst (v := 1) dL_holds_80 rfl ?_
        refine mJ_icmp_ne 88 dL_holds_81 rfl (fun _ => ?_) (fun c => absurd c (by decide))
        refine mJ_iconst (v := 1) dL_holds_88 rfl ?_
        refine mJ_iadd dL_holds_89 ?_
        refine mJ_istore_n dL_holds_90 (Nat.le_of_ble_eq_true rfl) (ls2 := [_, _, _, _, _, _, _, _, _, _, _, _, _]) rfl ?_
        refine mJ_iload_n dL_holds_91 rfl ?_
        refine mJ_iload dL_holds_92 rfl ?_
        refine mJ_if_ne 101 dL_holds_94 rfl (fun _ => ?_) (fun c => absurd c (by decide))
        refine mJ_iconst (v := 0) dL_holds_101 rfl ?_
        refine mJ_iadd dL_holds_102 ?_
        refine mJ_istore_n dL_holds_103 (Nat.le_of_ble_eq_true rfl) (ls2 := [_, _, _, _, _, _, _, _, _, _, _, _, _]) rfl ?_
        refine mJ_iload dL_holds_104 rfl ?_
        refine mJ_if_ne 113 dL_holds_106 rfl (fun _ => ?_) (fun c => absurd c (by decide))
        refine mJ_iconst (v := 0) dL_holds_113 rfl ?_
        refine mJ_iload dL_holds_114 rfl ?_
        refine mJ_if_lt 123 dL_holds_116 rfl (fun _ => ?_) (fun c => absurd c (by decide))
        refine mJ_iconst (v := 0) dL_holds_123 rfl ?_
        refine mJ_icmp_ne 212 dL_holds_124 rfl (fun c => absurd c (by decide)) (fun _ => ?_)
        refine mJ_iload dL_holds_127 rfl ?_
        refine mJ_iconst (v := 1) dL_holds_129 rfl ?_
        refine mJ_icmp_ne 137 dL_holds_130 rfl (fun _ => ?_) (fun c => absurd c (by decide))
        refine mJ_iconst (v := 0) dL_holds_137 rfl ?_
        refine mJ_aload_n dL_holds_138 rfl ?_
        refine mJ_iload dL_holds_139 rfl ?_
        refine mJ_bipush (v := 16) dL_holds_141 rfl ?_
        refine mJ_cV2i dL_holds_143 e_X7_hintOf n_L_15 ⟨Nat.le_of_ble_eq_true rfl, Nat.le_of_ble_eq_true rfl⟩ rfl rfl (Nat.le_of_ble_eq_true rfl) (mCt_val ((iO_at (ordL_nodup hi) hi2).trans (by rw [Nat.zero_add])) (Q_hint_16 Z hh)) ?_
        refine mJ_sipush (v := (-10004)) dL_holds_146 rfl ?_
        refine mJ_icmp_ne 156 dL_holds_149 rfl (fun c_149 => ?_) (fun c_149 => False.elim (by exact nI_neg1b (by omega) c_149))
        refine mJ_iconst (v := 0) dL_holds_156 rfl ?_
        refine mJ_icmp_ne 212 dL_holds_157 rfl (fun c => absurd c (by decide)) (fun _ => ?_)
        refine mJ_iload dL_holds_160 rfl ?_
        refine mJ_iconst (v := 5) dL_holds_162 rfl ?_
        refine mJ_icmp_ne 181 dL_holds_163 rfl (fun _ => ?_) (fun c => absurd c (by decide))
        refine mJ_iload dL_holds_181 rfl ?_
        refine mJ_iconst (v := 2) dL_holds_183 rfl ?_
        refine mJ_icmp_gt 208 dL_holds_184 rfl (fun _ => ?_) (fun c => absurd c (by decide))
        refine mJ_iconst (v := 1) dL_holds_208 rfl ?_
        refine mJ_goto 213 dL_holds_209 rfl ?_
        refine mJ_istore_n dL_holds_213 (Nat.le_of_ble_eq_true rfl) (ls2 := [_, _, _, _, _, _, _, _, _, _, _, _, _]) rfl ?_
        refine mJ_iload_n dL_holds_214 rfl ?_
        refine mJ_if_eq 666 dL_holds_215 rfl (fun c => absurd c (by decide)) (fun _ => ?_)
        refine mJ_iload dL_holds_218 rfl ?_
        refine mJ_if_ne 666 dL_holds_220 rfl (fun _ => ?_) (fun c => absurd c (by decide))
        refine mJ_iinc dL_holds_666 rfl (Nat.le_of_ble_eq_true rfl) (v := nI (h + 1)) (nI_1 h) (ls2 := [_, _, _, _, _, _, _, _, _, _, _, _, _]) rfl ?_
        refine mJ_goto 43 dL_holds_669 rfl ?_
        exact hk
      · have gk : h ∈ ordL d nO := Classical.byContradiction (fun z => absurd ((F4 h).mpr z) (by rw [e]; decide))
        obtain ⟨i, hi2⟩ := List.getElem?_of_mem gk
        have li : i < nO := by have := (List.getElem?_eq_some_iff.mp hi2).1; rw [ordL_len] at this; exact this
        have s2 : v2 + 1 = cP (fun o => o ∈ ordL d nO) (h + 1) := by rw [e2]; exact cP_t gk
        have lO := hw.2.2.1
        obtain ⟨P3, hk⟩ := ih (h + 1) (v1 + 0) (v2 + 1) (.int 5) (.int (-10004)) x7 x8 x9 x10 x11 x12 P2 (by omega) s1 s2
        refine ⟨P3, ?_⟩
        refine mJ_iload dL_holds_43 rfl ?_
        refine mJ_aload_n dL_holds_45 rfl ?_
        refine mJ_iconst (v := 5) dL_holds_46 rfl ?_
        refine mJ_cV1i dL_holds_47 e_X7_count n_L_9 ⟨Nat.le_of_ble_eq_true rfl, Nat.le_of_ble_eq_true rfl⟩ rfl rfl (Nat.le_of_ble_eq_true rfl) (Q_count_5 Z) ?_
        refine mJ_icmp_ge 672 dL_holds_50 rfl (fun c_50 => False.elim (by exact nI_ge hh (by omega) c_50)) (fun c_50 => ?_)
        refine mJ_iload_n dL_holds_53 rfl ?_
        refine mJ_if_eq 672 dL_holds_54 rfl (fun c => absurd c (by decide)) (fun _ => ?_)
        refine mJ_aload_n dL_holds_57 rfl ?_
        refine mJ_iload dL_holds_58 rfl ?_
        refine mJ_bipush (v := 8) dL_holds_60 rfl ?_
        refine mJ_cV2i dL_holds_62 e_X7_hintOf n_L_15 ⟨Nat.le_of_ble_eq_true rfl, Nat.le_of_ble_eq_true rfl⟩ rfl rfl (Nat.le_of_ble_eq_true rfl) (mCt_val e (Q_hint_8 Z hh)) ?_
        refine mJ_istore dL_holds_65 (Nat.le_of_ble_eq_true rfl) (ls2 := [_, _, _, _, _, _, _, _, _, _, _, _, _]) rfl ?_
        refine mJ_aload_n dL_holds_67 rfl ?_
        refine mJ_iload dL_holds_68 rfl ?_
        refine mJ_bipush (v := 9) dL_holds_70 rfl ?_
        refine mJ_cV2i dL_holds_72 e_X7_hintOf n_L_15 ⟨Nat.le_of_ble_eq_true rfl, Nat.le_of_ble_eq_true rfl⟩ rfl rfl (Nat.le_of_ble_eq_true rfl) (Q_hint_9n Z hh gs) ?_
        refine mJ_istore dL_holds_75 (Nat.le_of_ble_eq_true rfl) (ls2 := [_, _, _, _, _, _, _, _, _, _, _, _, _]) rfl ?_
        refine mJ_iload_n dL_holds_77 rfl ?_
        refine mJ_iload dL_holds_78 rfl ?_
        refine mJ_iconst (v := 1) dL_holds_80 rfl ?_
        refine mJ_icmp_ne 88 dL_holds_81 rfl (fun _ => ?_) (fun c => absurd c (by decide))
        refine mJ_iconst (v := 1) dL_holds_88 rfl ?_
        refine mJ_iadd dL_holds_89 ?_
        refine mJ_istore_n dL_holds_90 (Nat.le_of_ble_eq_true rfl) (ls2 := [_, _, _, _, _, _, _, _, _, _, _, _, _]) rfl ?_
        refine mJ_iload_n dL_holds_91 rfl ?_
        refine mJ_iload dL_holds_92 rfl ?_
        refine mJ_if_ne 101 dL_holds_94 rfl (fun _ => ?_) (fun c => absurd c (by decide))
        refine mJ_iconst (v := 0) dL_holds_101 rfl ?_
        refine mJ_iadd dL_holds_102 ?_
        refine mJ_istore_n dL_holds_103 (Nat.le_of_ble_eq_true rfl) (ls2 := [_, _, _, _, _, _, _, _, _, _, _, _, _]) rfl ?_
        refine mJ_iload dL_holds_104 rfl ?_
        refine mJ_if_ne 113 dL_holds_106 rfl (fun _ => ?_) (fun c => absurd c (by decide))
        refine mJ_iconst (v := 0) dL_holds_113 rfl ?_
        refine mJ_iload dL_holds_114 rfl ?_
        refine mJ_if_lt 123 dL_holds_116 rfl (fun _ => ?_) (fun c => absurd c (by decide))
        refine mJ_iconst (v := 0) dL_holds_123 rfl ?_
        refine mJ_icmp_ne 212 dL_holds_124 rfl (fun c => absurd c (by decide)) (fun _ => ?_)
        refine mJ_iload dL_holds_127 rfl ?_
        refine mJ_iconst (v := 1) dL_holds_129 rfl ?_
        refine mJ_icmp_ne 137 dL_holds_130 rfl (fun _ => ?_) (fun c => absurd c (by decide))
        refine mJ_iconst (v := 0) dL_holds_137 rfl ?_
        refine mJ_aload_n dL_holds_138 rfl ?_
        refine mJ_iload dL_holds_139 rfl ?_
        refine mJ_bipush (v := 16) dL_holds_141 rfl ?_
        refine mJ_cV2i dL_holds_143 e_X7_hintOf n_L_15 ⟨Nat.le_of_ble_eq_true rfl, Nat.le_of_ble_eq_true rfl⟩ rfl rfl (Nat.le_of_ble_eq_true rfl) (mCt_val ((iO_at (ordL_nodup hi) hi2).trans (by rw [Nat.zero_add])) (Q_hint_16 Z hh)) ?_
        refine mJ_sipush (v := (-10004)) dL_holds_146 rfl ?_
        refine mJ_icmp_ne 156 dL_holds_149 rfl (fun c_149 => ?_) (fun c_149 => False.elim (by exact nI_neg1b (by omega) c_149))
        refine mJ_iconst (v := 0) dL_holds_156 rfl ?_
        refine mJ_icmp_ne 212 dL_holds_157 rfl (fun c => absurd c (by decide)) (fun _ => ?_)
        refine mJ_iload dL_holds_160 rfl ?_
        refine mJ_iconst (v := 5) dL_holds_162 rfl ?_
        refine mJ_icmp_ne 181 dL_holds_163 rfl (fun c => absurd c (by decide)) (fun _ => ?_)
        refine mJ_aload_n dL_holds_166 rfl ?_
        refine mJ_bipush (v := 7) dL_holds_167 rfl ?_
        refine mJ_cV1i dL_holds_169 e_X7_count n_L_9 ⟨Nat.le_of_ble_eq_true rfl, Nat.le_of_ble_eq_true rfl⟩ rfl rfl (Nat.le_of_ble_eq_true rfl) (mCt_val g (Q_count_7 Z)) ?_
        refine mJ_aload_n dL_holds_172 rfl ?_
        refine mJ_bipush (v := 13) dL_holds_173 rfl ?_
        refine mJ_cV1i dL_holds_175 e_X7_count n_L_9 ⟨Nat.le_of_ble_eq_true rfl, Nat.le_of_ble_eq_true rfl⟩ rfl rfl (Nat.le_of_ble_eq_true rfl) (Q_count_13 Z) ?_
        refine mJ_icmp_ne 212 dL_holds_178 rfl (fun c_178 => False.elim (by exact c_178 rfl)) (fun c_178 => ?_)
        refine mJ_iload dL_holds_181 rfl ?_
        refine mJ_iconst (v := 2) dL_holds_183 rfl ?_
        refine mJ_icmp_gt 208 dL_holds_184 rfl (fun _ => ?_) (fun c => absurd c (by decide))
        refine mJ_iconst (v := 1) dL_holds_208 rfl ?_
        refine mJ_goto 213 dL_holds_209 rfl ?_
        refine mJ_istore_n dL_holds_213 (Nat.le_of_ble_eq_true rfl) (ls2 := [_, _, _, _, _, _, _, _, _, _, _, _, _]) rfl ?_
        refine mJ_iload_n dL_holds_214 rfl ?_
        refine mJ_if_eq 666 dL_holds_215 rfl (fun c => absurd c (by decide)) (fun _ => ?_)
        refine mJ_iload dL_holds_218 rfl ?_
        refine mJ_if_ne 666 dL_holds_220 rfl (fun _ => ?_) (fun c => absurd c (by decide))
        refine mJ_iinc dL_holds_666 rfl (Nat.le_of_ble_eq_true rfl) (v := nI (h + 1)) (nI_1 h) (ls2 := [_, _, _, _, _, _, _, _, _, _, _, _, _]) rfl ?_
        refine mJ_goto 43 dL_holds_669 rfl ?_
        exact hk
    · obtain ⟨hsd, e0, hin⟩ := F1 h gs
      have gk : h ∈ ordL d nO := Classical.byContradiction (fun z => absurd ((F4 h).mpr z) (by rw [e0]; decide))
      obtain ⟨i, hi2⟩ := List.getElem?_of_mem gk
      have li : i < nO := by have := (List.getElem?_eq_some_iff.mp hi2).1; rw [ordL_len] at this; exact this
      have lO := hw.2.2.1
      have s1 : v1 + 1 = cP (fun o => ¬ (p_all d nA nH nO).2.1 o = -1) (h + 1) := by rw [e1]; exact cP_t gs
      have s2 : v2 + 1 = cP (fun o => o ∈ ordL d nO) (h + 1) := by rw [e2]; exact cP_t gk
      obtain ⟨r1, r2, r3, r4⟩ := in_R hw hR hh hin
      obtain ⟨t1, t2⟩ := at_me Z hh gs
      obtain ⟨l1, l2⟩ := lnr (d := d) (h := h) hsd
      have b1 : b2i (p_in d h ((p_all d nA nH nO).2.1 h)) = 1 := b2i_t hin
      have kk : ∀ (P2 : tP) (x11 x12 : Value), ∃ P2' : tP, mJ k_L_holds 666 [.ref 0, .int (v1 + 1), .int (v2 + 1), .int 1, .int (nI h), .int 0, .int ((p_all d nA nH nO).2.1 h), .int (p_x d h ((p_all d nA nH nO).2.1 h)), .int (p_y d h ((p_all d nA nH nO).2.1 h)), .int (dH d h 1), .int (dH d h 2), x11, x12] [] (cH C (W, nI o, nI n) (RS, SD, XS, YS, OR, shn) T1 P1 Od T2 (P2)) (some (.int 1)) (cH C (W, nI o, nI n) (RS, SD, XS, YS, OR, shn) T1 P1 Od T2 (P2')) := by
        intro P2 x11 x12
        obtain ⟨P3, hk⟩ := ih (h + 1) (v1 + 1) (v2 + 1) (.int 0) (.int ((p_all d nA nH nO).2.1 h)) (.int (p_x d h ((p_all d nA nH nO).2.1 h))) (.int (p_y d h ((p_all d nA nH nO).2.1 h))) (.int (dH d h 1)) (.int (dH d h 2)) x11 x12 P2 (by omega) s1 s2
        refine ⟨P3, ?_⟩
        refine mJ_iinc dL_holds_666 rfl (Nat.le_of_ble_eq_true rfl) (v := nI (h + 1)) (nI_1 h) (ls2 := [_, _, _, _, _, _, _, _, _, _, _, _, _]) rfl ?_
        refine mJ_goto 43 dL_holds_669 rfl ?_
        exact hk
      obtain ⟨P3, hk⟩ := L_holds_i Z hh gs kk h 0 (fP C d nA nH nO h) x12 (by omega)
      refine ⟨P3, ?_⟩
      by_cases gd : p_gd d h ((p_all d nA nH nO).2.1 h)
      · have g1 : b2i (p_gd d h ((p_all d nA nH nO).2.1 h)) = 1 := b2i_t gd
        refine mJ_iload dL_holds_43 rfl ?_
        refine mJ_aload_n dL_holds_45 rfl ?_
        refine mJ_iconst (v := 5) dL_holds_46 rfl ?_
        refine mJ_cV1i dL_holds_47 e_X7_count n_L_9 ⟨Nat.le_of_ble_eq_true rfl, Nat.le_of_ble_eq_true rfl⟩ rfl rfl (Nat.le_of_ble_eq_true rfl) (Q_count_5 Z) ?_
        refine mJ_icmp_ge 672 dL_holds_50 rfl (fun c_50 => False.elim (by exact nI_ge hh (by omega) c_50)) (fun c_50 => ?_)
        refine mJ_iload_n dL_holds_53 rfl ?_
        refine mJ_if_eq 672 dL_holds_54 rfl (fun c => absurd c (by decide)) (fun _ => ?_)
        refine mJ_aload_n dL_holds_57 rfl ?_
        refine mJ_iload dL_holds_58 rfl ?_
        refine mJ_bipush (v := 8) dL_holds_60 rfl ?_
        refine mJ_cV2i dL_holds_62 e_X7_hintOf n_L_15 ⟨Nat.le_of_ble_eq_true rfl, Nat.le_of_ble_eq_true rfl⟩ rfl rfl (Nat.le_of_ble_eq_true rfl) (mCt_val e0 (Q_hint_8 Z hh)) ?_
        refine mJ_istore dL_holds_65 (Nat.le_of_ble_eq_true rfl) (ls2 := [_, _, _, _, _, _, _, _, _, _, _, _, _]) rfl ?_
        refine mJ_aload_n dL_holds_67 rfl ?_
        refine mJ_iload dL_holds_68 rfl ?_
        refine mJ_bipush (v := 9) dL_holds_70 rfl ?_
        refine mJ_cV2i dL_holds_72 e_X7_hintOf n_L_15 ⟨Nat.le_of_ble_eq_true rfl, Nat.le_of_ble_eq_true rfl⟩ rfl rfl (Nat.le_of_ble_eq_true rfl) (Q_hint_9 Z hh gs) ?_
        refine mJ_istore dL_holds_75 (Nat.le_of_ble_eq_true rfl) (ls2 := [_, _, _, _, _, _, _, _, _, _, _, _, _]) rfl ?_
        refine mJ_iload_n dL_holds_77 rfl ?_
        refine mJ_iload dL_holds_78 rfl ?_
        refine mJ_iconst (v := 1) dL_holds_80 rfl ?_
        refine mJ_icmp_ne 88 dL_holds_81 rfl (fun _ => ?_) (fun c => absurd c (by decide))
        refine mJ_iconst (v := 1) dL_holds_88 rfl ?_
        refine mJ_iadd dL_holds_89 ?_
        refine mJ_istore_n dL_holds_90 (Nat.le_of_ble_eq_true rfl) (ls2 := [_, _, _, _, _, _, _, _, _, _, _, _, _]) rfl ?_
        refine mJ_iload_n dL_holds_91 rfl ?_
        refine mJ_iload dL_holds_92 rfl ?_
        refine mJ_if_ne 101 dL_holds_94 rfl (fun c => absurd c (by decide)) (fun _ => ?_)
        refine mJ_iconst (v := 1) dL_holds_97 rfl ?_
        refine mJ_goto 102 dL_holds_98 rfl ?_
        refine mJ_iadd dL_holds_102 ?_
        refine mJ_istore_n dL_holds_103 (Nat.le_of_ble_eq_true rfl) (ls2 := [_, _, _, _, _, _, _, _, _, _, _, _, _]) rfl ?_
        refine mJ_iload dL_holds_104 rfl ?_
        refine mJ_if_ne 113 dL_holds_106 rfl (fun c => absurd c (by decide)) (fun _ => ?_)
        refine mJ_iconst (v := 1) dL_holds_109 rfl ?_
        refine mJ_goto 114 dL_holds_110 rfl ?_
        refine mJ_iload dL_holds_114 rfl ?_
        refine mJ_if_lt 123 dL_holds_116 rfl (fun c_116 => False.elim (by exact sd_pos hsd c_116)) (fun c_116 => ?_)
        refine mJ_iconst (v := 1) dL_holds_119 rfl ?_
        refine mJ_goto 124 dL_holds_120 rfl ?_
        refine mJ_icmp_ne 212 dL_holds_124 rfl (fun c => absurd c (by decide)) (fun _ => ?_)
        refine mJ_iload dL_holds_127 rfl ?_
        refine mJ_iconst (v := 1) dL_holds_129 rfl ?_
        refine mJ_icmp_ne 137 dL_holds_130 rfl (fun _ => ?_) (fun c => absurd c (by decide))
        refine mJ_iconst (v := 0) dL_holds_137 rfl ?_
        refine mJ_aload_n dL_holds_138 rfl ?_
        refine mJ_iload dL_holds_139 rfl ?_
        refine mJ_bipush (v := 16) dL_holds_141 rfl ?_
        refine mJ_cV2i dL_holds_143 e_X7_hintOf n_L_15 ⟨Nat.le_of_ble_eq_true rfl, Nat.le_of_ble_eq_true rfl⟩ rfl rfl (Nat.le_of_ble_eq_true rfl) (mCt_val ((iO_at (ordL_nodup hi) hi2).trans (by rw [Nat.zero_add])) (Q_hint_16 Z hh)) ?_
        refine mJ_sipush (v := (-10004)) dL_holds_146 rfl ?_
        refine mJ_icmp_ne 156 dL_holds_149 rfl (fun c_149 => ?_) (fun c_149 => False.elim (by exact nI_neg1b (by omega) c_149))
        refine mJ_iconst (v := 0) dL_holds_156 rfl ?_
        refine mJ_icmp_ne 212 dL_holds_157 rfl (fun c => absurd c (by decide)) (fun _ => ?_)
        refine mJ_iload dL_holds_160 rfl ?_
        refine mJ_iconst (v := 5) dL_holds_162 rfl ?_
        refine mJ_icmp_ne 181 dL_holds_163 rfl (fun _ => ?_) (fun c => absurd c (by decide))
        refine mJ_iload dL_holds_181 rfl ?_
        refine mJ_iconst (v := 2) dL_holds_183 rfl ?_
        refine mJ_icmp_gt 208 dL_holds_184 rfl (fun c => absurd c (by decide)) (fun _ => ?_)
        refine mJ_iload dL_holds_187 rfl ?_
        refine mJ_iconst (v := 2) dL_holds_189 rfl ?_
        refine mJ_icmp_lt 208 dL_holds_190 rfl (fun _ => ?_) (fun c => absurd c (by decide))
        refine mJ_iconst (v := 1) dL_holds_208 rfl ?_
        refine mJ_goto 213 dL_holds_209 rfl ?_
        refine mJ_istore_n dL_holds_213 (Nat.le_of_ble_eq_true rfl) (ls2 := [_, _, _, _, _, _, _, _, _, _, _, _, _]) rfl ?_
        refine mJ_iload_n dL_holds_214 rfl ?_
        refine mJ_if_eq 666 dL_holds_215 rfl (fun c => absurd c (by decide)) (fun _ => ?_)
        refine mJ_iload dL_holds_218 rfl ?_
        refine mJ_if_ne 666 dL_holds_220 rfl (fun c => absurd c (by decide)) (fun _ => ?_)
        refine mJ_aload_n dL_holds_223 rfl ?_
        refine mJ_iload dL_holds_224 rfl ?_
        refine mJ_bipush (v := 10) dL_holds_226 rfl ?_
        refine mJ_cV2i dL_holds_228 e_X7_hintOf n_L_15 ⟨Nat.le_of_ble_eq_true rfl, Nat.le_of_ble_eq_true rfl⟩ rfl rfl (Nat.le_of_ble_eq_true rfl) (Q_hint_10 Z hh gs) ?_
        refine mJ_istore dL_holds_231 (Nat.le_of_ble_eq_true rfl) (ls2 := [_, _, _, _, _, _, _, _, _, _, _, _, _]) rfl ?_
        refine mJ_aload_n dL_holds_233 rfl ?_
        refine mJ_iload dL_holds_234 rfl ?_
        refine mJ_bipush (v := 11) dL_holds_236 rfl ?_
        refine mJ_cV2i dL_holds_238 e_X7_hintOf n_L_15 ⟨Nat.le_of_ble_eq_true rfl, Nat.le_of_ble_eq_true rfl⟩ rfl rfl (Nat.le_of_ble_eq_true rfl) (Q_hint_11 Z hh gs) ?_
        refine mJ_istore dL_holds_241 (Nat.le_of_ble_eq_true rfl) (ls2 := [_, _, _, _, _, _, _, _, _, _, _, _, _]) rfl ?_
        refine mJ_aload_n dL_holds_243 rfl ?_
        refine mJ_iload dL_holds_244 rfl ?_
        refine mJ_iconst (v := 1) dL_holds_246 rfl ?_
        refine mJ_cV2i dL_holds_247 e_X7_hintOf n_L_15 ⟨Nat.le_of_ble_eq_true rfl, Nat.le_of_ble_eq_true rfl⟩ rfl rfl (Nat.le_of_ble_eq_true rfl) (Q_hint_1 Z hh) ?_
        refine mJ_istore dL_holds_250 (Nat.le_of_ble_eq_true rfl) (ls2 := [_, _, _, _, _, _, _, _, _, _, _, _, _]) rfl ?_
        refine mJ_aload_n dL_holds_252 rfl ?_
        refine mJ_iload dL_holds_253 rfl ?_
        refine mJ_iconst (v := 2) dL_holds_255 rfl ?_
        refine mJ_cV2i dL_holds_256 e_X7_hintOf n_L_15 ⟨Nat.le_of_ble_eq_true rfl, Nat.le_of_ble_eq_true rfl⟩ rfl rfl (Nat.le_of_ble_eq_true rfl) (Q_hint_2 Z hh) ?_
        refine mJ_istore dL_holds_259 (Nat.le_of_ble_eq_true rfl) (ls2 := [_, _, _, _, _, _, _, _, _, _, _, _, _]) rfl ?_
        refine mJ_iload dL_holds_261 rfl ?_
        refine mJ_aload_n dL_holds_263 rfl ?_
        refine mJ_iconst (v := 0) dL_holds_264 rfl ?_
        refine mJ_cV1i dL_holds_265 e_X7_count n_L_9 ⟨Nat.le_of_ble_eq_true rfl, Nat.le_of_ble_eq_true rfl⟩ rfl rfl (Nat.le_of_ble_eq_true rfl) (Q_count_0 Z) ?_
        refine mJ_icmp_lt 404 dL_holds_268 rfl (fun c_268 => False.elim (by exact hin.1.1 c_268)) (fun c_268 => ?_)
        refine mJ_iload dL_holds_271 rfl ?_
        refine mJ_aload_n dL_holds_273 rfl ?_
        refine mJ_iconst (v := 1) dL_holds_274 rfl ?_
        refine mJ_cV1i dL_holds_275 e_X7_count n_L_9 ⟨Nat.le_of_ble_eq_true rfl, Nat.le_of_ble_eq_true rfl⟩ rfl rfl (Nat.le_of_ble_eq_true rfl) (Q_count_1 Z) ?_
        refine mJ_icmp_lt 404 dL_holds_278 rfl (fun c_278 => False.elim (by exact hin.2.1 c_278)) (fun c_278 => ?_)
        refine mJ_iload dL_holds_281 rfl ?_
        refine mJ_iload dL_holds_283 rfl ?_
        refine mJ_iadd dL_holds_285 ?_
        refine mJ_aload_n dL_holds_286 rfl ?_
        refine mJ_iconst (v := 0) dL_holds_287 rfl ?_
        refine mJ_cV1i dL_holds_288 e_X7_count n_L_9 ⟨Nat.le_of_ble_eq_true rfl, Nat.le_of_ble_eq_true rfl⟩ rfl rfl (Nat.le_of_ble_eq_true rfl) (Q_count_0 Z) ?_
        refine mJ_aload_n dL_holds_291 rfl ?_
        refine mJ_iconst (v := 2) dL_holds_292 rfl ?_
        refine mJ_cV1i dL_holds_293 e_X7_count n_L_9 ⟨Nat.le_of_ble_eq_true rfl, Nat.le_of_ble_eq_true rfl⟩ rfl rfl (Nat.le_of_ble_eq_true rfl) (Q_count_2 Z) ?_
        refine mJ_iadd dL_holds_296 ?_
        refine mJ_icmp_gt 404 dL_holds_297 rfl (fun c_297 => False.elim (by exact hin.1.2 c_297)) (fun c_297 => ?_)
        refine mJ_iload dL_holds_300 rfl ?_
        refine mJ_iload dL_holds_302 rfl ?_
        refine mJ_iadd dL_holds_304 ?_
        refine mJ_aload_n dL_holds_305 rfl ?_
        refine mJ_iconst (v := 1) dL_holds_306 rfl ?_
        refine mJ_cV1i dL_holds_307 e_X7_count n_L_9 ⟨Nat.le_of_ble_eq_true rfl, Nat.le_of_ble_eq_true rfl⟩ rfl rfl (Nat.le_of_ble_eq_true rfl) (Q_count_1 Z) ?_
        refine mJ_aload_n dL_holds_310 rfl ?_
        refine mJ_iconst (v := 3) dL_holds_311 rfl ?_
        refine mJ_cV1i dL_holds_312 e_X7_count n_L_9 ⟨Nat.le_of_ble_eq_true rfl, Nat.le_of_ble_eq_true rfl⟩ rfl rfl (Nat.le_of_ble_eq_true rfl) (Q_count_3 Z) ?_
        refine mJ_iadd dL_holds_315 ?_
        refine mJ_icmp_gt 404 dL_holds_316 rfl (fun c_316 => False.elim (by exact hin.2.2 c_316)) (fun c_316 => ?_)
        refine mJ_aload_n dL_holds_319 rfl ?_
        refine mJ_iload dL_holds_320 rfl ?_
        refine mJ_iload dL_holds_322 rfl ?_
        refine mJ_iconst (v := 0) dL_holds_324 rfl ?_
        refine mJ_cV3i dL_holds_325 e_X7_ifOn n_L_22 ⟨Nat.le_of_ble_eq_true rfl, Nat.le_of_ble_eq_true rfl⟩ rfl rfl (Nat.le_of_ble_eq_true rfl) (mCt_val b1 (Q_ifOn_0 Z hh gs)) ?_
        refine mJ_iconst (v := 1) dL_holds_328 rfl ?_
        refine mJ_icmp_ne 404 dL_holds_329 rfl (fun c => absurd c (by decide)) (fun _ => ?_)
        refine mJ_aload_n dL_holds_332 rfl ?_
        refine mJ_iload dL_holds_333 rfl ?_
        refine mJ_iload dL_holds_335 rfl ?_
        refine mJ_iconst (v := 1) dL_holds_337 rfl ?_
        refine mJ_cV3i dL_holds_338 e_X7_ifOn n_L_22 ⟨Nat.le_of_ble_eq_true rfl, Nat.le_of_ble_eq_true rfl⟩ rfl rfl (Nat.le_of_ble_eq_true rfl) (Q_ifOn_1 Z hh gs) ?_
        refine mJ_iload dL_holds_341 rfl ?_
        refine mJ_icmp_ne 404 dL_holds_343 rfl (fun c_343 => False.elim (by exact c_343 rfl)) (fun c_343 => ?_)
        refine mJ_aload_n dL_holds_346 rfl ?_
        refine mJ_iload dL_holds_347 rfl ?_
        refine mJ_iload dL_holds_349 rfl ?_
        refine mJ_iconst (v := 2) dL_holds_351 rfl ?_
        refine mJ_cV3i dL_holds_352 e_X7_ifOn n_L_22 ⟨Nat.le_of_ble_eq_true rfl, Nat.le_of_ble_eq_true rfl⟩ rfl rfl (Nat.le_of_ble_eq_true rfl) (Q_ifOn_2 Z hh gs) ?_
        refine mJ_iload dL_holds_355 rfl ?_
        refine mJ_icmp_ne 404 dL_holds_357 rfl (fun c_357 => False.elim (by exact c_357 rfl)) (fun c_357 => ?_)
        refine mJ_aload_n dL_holds_360 rfl ?_
        refine mJ_iload dL_holds_361 rfl ?_
        refine mJ_iload dL_holds_363 rfl ?_
        refine mJ_iconst (v := 3) dL_holds_365 rfl ?_
        refine mJ_cV3i dL_holds_366 e_X7_ifOn n_L_22 ⟨Nat.le_of_ble_eq_true rfl, Nat.le_of_ble_eq_true rfl⟩ rfl rfl (Nat.le_of_ble_eq_true rfl) (Q_ifOn_3 Z hh gs) ?_
        refine mJ_aload_n dL_holds_369 rfl ?_
        refine mJ_iload dL_holds_370 rfl ?_
        refine mJ_bipush (v := 14) dL_holds_372 rfl ?_
        refine mJ_cV2i dL_holds_374 e_X7_hintOf n_L_15 ⟨Nat.le_of_ble_eq_true rfl, Nat.le_of_ble_eq_true rfl⟩ rfl rfl (Nat.le_of_ble_eq_true rfl) (Q_hint_14 Z hh gs) ?_
        refine mJ_icmp_ne 404 dL_holds_377 rfl (fun c_377 => False.elim (by exact c_377 rfl)) (fun c_377 => ?_)
        refine mJ_aload_n dL_holds_380 rfl ?_
        refine mJ_iload dL_holds_381 rfl ?_
        refine mJ_iload dL_holds_383 rfl ?_
        refine mJ_iconst (v := 4) dL_holds_385 rfl ?_
        refine mJ_cV3i dL_holds_386 e_X7_ifOn n_L_22 ⟨Nat.le_of_ble_eq_true rfl, Nat.le_of_ble_eq_true rfl⟩ rfl rfl (Nat.le_of_ble_eq_true rfl) (Q_ifOn_4 Z hh gs) ?_
        refine mJ_aload_n dL_holds_389 rfl ?_
        refine mJ_iload dL_holds_390 rfl ?_
        refine mJ_bipush (v := 12) dL_holds_392 rfl ?_
        refine mJ_cV2i dL_holds_394 e_X7_hintOf n_L_15 ⟨Nat.le_of_ble_eq_true rfl, Nat.le_of_ble_eq_true rfl⟩ rfl rfl (Nat.le_of_ble_eq_true rfl) (Q_hint_12 Z hh gs) ?_
        refine mJ_icmp_ne 404 dL_holds_397 rfl (fun c_397 => False.elim (by exact c_397 rfl)) (fun c_397 => ?_)
        refine mJ_iconst (v := 1) dL_holds_400 rfl ?_
        refine mJ_goto 405 dL_holds_401 rfl ?_
        refine mJ_istore_n dL_holds_405 (Nat.le_of_ble_eq_true rfl) (ls2 := [_, _, _, _, _, _, _, _, _, _, _, _, _]) rfl ?_
        refine mJ_iload_n dL_holds_406 rfl ?_
        refine mJ_if_eq 549 dL_holds_407 rfl (fun c => absurd c (by decide)) (fun _ => ?_)
        refine mJ_aload_n dL_holds_410 rfl ?_
        refine mJ_iload dL_holds_411 rfl ?_
        refine mJ_iload dL_holds_413 rfl ?_
        refine mJ_cV2i dL_holds_415 e_X7_at n_L_26 ⟨Nat.le_of_ble_eq_true rfl, Nat.le_of_ble_eq_true rfl⟩ rfl rfl (Nat.le_of_ble_eq_true rfl) (mCt_val t1 (Q_at Z (q_in_R (F := 3000) r1 (by decide) (by decide) (by omega) (by omega)) (q_in_R (F := 3000) r2 (by decide) (by decide) (by omega) (by omega)))) ?_
        refine mJ_iload dL_holds_418 rfl ?_
        refine mJ_icmp_ne 549 dL_holds_420 rfl (fun c_420 => False.elim (by exact c_420 rfl)) (fun c_420 => ?_)
        refine mJ_aload_n dL_holds_423 rfl ?_
        refine mJ_iload dL_holds_424 rfl ?_
        refine mJ_iload dL_holds_426 rfl ?_
        refine mJ_iadd dL_holds_428 ?_
        refine mJ_iconst (v := 1) dL_holds_429 rfl ?_
        refine mJ_isub dL_holds_430 ?_
        refine mJ_iload dL_holds_431 rfl ?_
        refine mJ_iload dL_holds_433 rfl ?_
        refine mJ_iadd dL_holds_435 ?_
        refine mJ_iconst (v := 1) dL_holds_436 rfl ?_
        refine mJ_isub dL_holds_437 ?_
        refine mJ_cV2i dL_holds_438 e_X7_at n_L_26 ⟨Nat.le_of_ble_eq_true rfl, Nat.le_of_ble_eq_true rfl⟩ rfl rfl (Nat.le_of_ble_eq_true rfl) (mCt_val t2 (Q_at Z (q_in_R (F := 3000) r3 (by decide) (by decide) (by omega) (by omega)) (q_in_R (F := 3000) r4 (by decide) (by decide) (by omega) (by omega)))) ?_
        refine mJ_iload dL_holds_441 rfl ?_
        refine mJ_icmp_ne 549 dL_holds_443 rfl (fun c_443 => False.elim (by exact c_443 rfl)) (fun c_443 => ?_)
        refine mJ_aload_n dL_holds_446 rfl ?_
        refine mJ_iload dL_holds_447 rfl ?_
        refine mJ_bipush (v := 6) dL_holds_449 rfl ?_
        refine mJ_cV2i dL_holds_451 e_X7_hintOf n_L_15 ⟨Nat.le_of_ble_eq_true rfl, Nat.le_of_ble_eq_true rfl⟩ rfl rfl (Nat.le_of_ble_eq_true rfl) (Q_hint_6 Z hh) ?_
        refine mJ_iconst (v := 1) dL_holds_454 rfl ?_
        refine mJ_icmp_eq 469 dL_holds_455 rfl (fun c_455 => ?_) (fun c_455 => ?_)
        · refine mJ_aload_n dL_holds_469 rfl ?_
          refine mJ_iload dL_holds_470 rfl ?_
          refine mJ_bipush (v := 13) dL_holds_472 rfl ?_
          refine mJ_cV2i dL_holds_474 e_X7_hintOf n_L_15 ⟨Nat.le_of_ble_eq_true rfl, Nat.le_of_ble_eq_true rfl⟩ rfl rfl (Nat.le_of_ble_eq_true rfl) (mCt_val g1 (Q_hint_13 Z hh gs)) ?_
          refine mJ_iconst (v := 1) dL_holds_477 rfl ?_
          refine mJ_icmp_ne 485 dL_holds_478 rfl (fun c => absurd c (by decide)) (fun _ => ?_)
          refine mJ_iconst (v := 1) dL_holds_481 rfl ?_
          refine mJ_goto 486 dL_holds_482 rfl ?_
          refine mJ_aload_n dL_holds_486 rfl ?_
          refine mJ_iload dL_holds_487 rfl ?_
          refine mJ_bipush (v := 12) dL_holds_489 rfl ?_
          refine mJ_cV2i dL_holds_491 e_X7_hintOf n_L_15 ⟨Nat.le_of_ble_eq_true rfl, Nat.le_of_ble_eq_true rfl⟩ rfl rfl (Nat.le_of_ble_eq_true rfl) (Q_hint_12 Z hh gs) ?_
          refine mJ_aload_n dL_holds_494 rfl ?_
          refine mJ_bipush (v := 12) dL_holds_495 rfl ?_
          refine mJ_cV1i dL_holds_497 e_X7_count n_L_9 ⟨Nat.le_of_ble_eq_true rfl, Nat.le_of_ble_eq_true rfl⟩ rfl rfl (Nat.le_of_ble_eq_true rfl) (Q_count_12 Z) ?_
          refine mJ_icmp_lt 541 dL_holds_500 rfl (fun c_500 => False.elim (by exact gd.1 c_500)) (fun c_500 => ?_)
          refine mJ_aload_n dL_holds_503 rfl ?_
          refine mJ_iload dL_holds_504 rfl ?_
          refine mJ_bipush (v := 12) dL_holds_506 rfl ?_
          refine mJ_cV2i dL_holds_508 e_X7_hintOf n_L_15 ⟨Nat.le_of_ble_eq_true rfl, Nat.le_of_ble_eq_true rfl⟩ rfl rfl (Nat.le_of_ble_eq_true rfl) (Q_hint_12 Z hh gs) ?_
          refine mJ_iload dL_holds_511 rfl ?_
          refine mJ_iconst (v := 2) dL_holds_513 rfl ?_
          refine mJ_irem dL_holds_514 (by decide) ?_
          refine mJ_if_ne 523 dL_holds_515 rfl (fun c_515 => ?_) (fun c_515 => ?_)
          · refine mJ_iload dL_holds_523 rfl ?_
            refine mJ_iconst (v := 1) dL_holds_525 rfl ?_
            refine mJ_isub dL_holds_526 ?_
            refine mJ_aload_n dL_holds_527 rfl ?_
            refine mJ_bipush (v := 12) dL_holds_528 rfl ?_
            refine mJ_cV1i dL_holds_530 e_X7_count n_L_9 ⟨Nat.le_of_ble_eq_true rfl, Nat.le_of_ble_eq_true rfl⟩ rfl rfl (Nat.le_of_ble_eq_true rfl) (Q_count_12 Z) ?_
            refine mJ_isub dL_holds_533 ?_
            refine mJ_icmp_gt 541 dL_holds_534 rfl (fun c_534 => False.elim (by exact gd.2 (by rw [l1 c_515]; exact c_534))) (fun c_534 => ?_)
            refine mJ_iconst (v := 1) dL_holds_537 rfl ?_
            refine mJ_goto 542 dL_holds_538 rfl ?_
            refine mJ_icmp_ne 549 dL_holds_542 rfl (fun c => absurd c (by decide)) (fun _ => ?_)
            refine mJ_iconst (v := 1) dL_holds_545 rfl ?_
            refine mJ_goto 550 dL_holds_546 rfl ?_
            refine mJ_istore_n dL_holds_550 (Nat.le_of_ble_eq_true rfl) (ls2 := [_, _, _, _, _, _, _, _, _, _, _, _, _]) rfl ?_
            refine mJ_iconst (v := 0) dL_holds_551 rfl ?_
            refine mJ_istore dL_holds_552 (Nat.le_of_ble_eq_true rfl) (ls2 := [_, _, _, _, _, _, _, _, _, _, _, _, _]) rfl ?_
            exact hk
          · refine mJ_iload dL_holds_518 rfl ?_
            refine mJ_goto 525 dL_holds_520 rfl ?_
            refine mJ_iconst (v := 1) dL_holds_525 rfl ?_
            refine mJ_isub dL_holds_526 ?_
            refine mJ_aload_n dL_holds_527 rfl ?_
            refine mJ_bipush (v := 12) dL_holds_528 rfl ?_
            refine mJ_cV1i dL_holds_530 e_X7_count n_L_9 ⟨Nat.le_of_ble_eq_true rfl, Nat.le_of_ble_eq_true rfl⟩ rfl rfl (Nat.le_of_ble_eq_true rfl) (Q_count_12 Z) ?_
            refine mJ_isub dL_holds_533 ?_
            refine mJ_icmp_gt 541 dL_holds_534 rfl (fun c_534 => False.elim (by exact gd.2 (by rw [l2 c_515]; exact c_534))) (fun c_534 => ?_)
            refine mJ_iconst (v := 1) dL_holds_537 rfl ?_
            refine mJ_goto 542 dL_holds_538 rfl ?_
            refine mJ_icmp_ne 549 dL_holds_542 rfl (fun c => absurd c (by decide)) (fun _ => ?_)
            refine mJ_iconst (v := 1) dL_holds_545 rfl ?_
            refine mJ_goto 550 dL_holds_546 rfl ?_
            refine mJ_istore_n dL_holds_550 (Nat.le_of_ble_eq_true rfl) (ls2 := [_, _, _, _, _, _, _, _, _, _, _, _, _]) rfl ?_
            refine mJ_iconst (v := 0) dL_holds_551 rfl ?_
            refine mJ_istore dL_holds_552 (Nat.le_of_ble_eq_true rfl) (ls2 := [_, _, _, _, _, _, _, _, _, _, _, _, _]) rfl ?_
            exact hk
        · refine mJ_aload_n dL_holds_458 rfl ?_
          refine mJ_iload dL_holds_459 rfl ?_
          refine mJ_bipush (v := 14) dL_holds_461 rfl ?_
          refine mJ_cV2i dL_holds_463 e_X7_hintOf n_L_15 ⟨Nat.le_of_ble_eq_true rfl, Nat.le_of_ble_eq_true rfl⟩ rfl rfl (Nat.le_of_ble_eq_true rfl) (Q_hint_14 Z hh gs) ?_
          refine mJ_if_ne 549 dL_holds_466 rfl (fun c_466 => False.elim (by exact c_466 (if_neg c_455))) (fun c_466 => ?_)
          refine mJ_aload_n dL_holds_469 rfl ?_
          refine mJ_iload dL_holds_470 rfl ?_
          refine mJ_bipush (v := 13) dL_holds_472 rfl ?_
          refine mJ_cV2i dL_holds_474 e_X7_hintOf n_L_15 ⟨Nat.le_of_ble_eq_true rfl, Nat.le_of_ble_eq_true rfl⟩ rfl rfl (Nat.le_of_ble_eq_true rfl) (mCt_val g1 (Q_hint_13 Z hh gs)) ?_
          refine mJ_iconst (v := 1) dL_holds_477 rfl ?_
          refine mJ_icmp_ne 485 dL_holds_478 rfl (fun c => absurd c (by decide)) (fun _ => ?_)
          refine mJ_iconst (v := 1) dL_holds_481 rfl ?_
          refine mJ_goto 486 dL_holds_482 rfl ?_
          refine mJ_aload_n dL_holds_486 rfl ?_
          refine mJ_iload dL_holds_487 rfl ?_
          refine mJ_bipush (v := 12) dL_holds_489 rfl ?_
          refine mJ_cV2i dL_holds_491 e_X7_hintOf n_L_15 ⟨Nat.le_of_ble_eq_true rfl, Nat.le_of_ble_eq_true rfl⟩ rfl rfl (Nat.le_of_ble_eq_true rfl) (Q_hint_12 Z hh gs) ?_
          refine mJ_aload_n dL_holds_494 rfl ?_
          refine mJ_bipush (v := 12) dL_holds_495 rfl ?_
          refine mJ_cV1i dL_holds_497 e_X7_count n_L_9 ⟨Nat.le_of_ble_eq_true rfl, Nat.le_of_ble_eq_true rfl⟩ rfl rfl (Nat.le_of_ble_eq_true rfl) (Q_count_12 Z) ?_
          refine mJ_icmp_lt 541 dL_holds_500 rfl (fun c_500 => False.elim (by exact gd.1 c_500)) (fun c_500 => ?_)
          refine mJ_aload_n dL_holds_503 rfl ?_
          refine mJ_iload dL_holds_504 rfl ?_
          refine mJ_bipush (v := 12) dL_holds_506 rfl ?_
          refine mJ_cV2i dL_holds_508 e_X7_hintOf n_L_15 ⟨Nat.le_of_ble_eq_true rfl, Nat.le_of_ble_eq_true rfl⟩ rfl rfl (Nat.le_of_ble_eq_true rfl) (Q_hint_12 Z hh gs) ?_
          refine mJ_iload dL_holds_511 rfl ?_
          refine mJ_iconst (v := 2) dL_holds_513 rfl ?_
          refine mJ_irem dL_holds_514 (by decide) ?_
          refine mJ_if_ne 523 dL_holds_515 rfl (fun c_515 => ?_) (fun c_515 => ?_)
          · refine mJ_iload dL_holds_523 rfl ?_
            refine mJ_iconst (v := 1) dL_holds_525 rfl ?_
            refine mJ_isub dL_holds_526 ?_
            refine mJ_aload_n dL_holds_527 rfl ?_
            refine mJ_bipush (v := 12) dL_holds_528 rfl ?_
            refine mJ_cV1i dL_holds_530 e_X7_count n_L_9 ⟨Nat.le_of_ble_eq_true rfl, Nat.le_of_ble_eq_true rfl⟩ rfl rfl (Nat.le_of_ble_eq_true rfl) (Q_count_12 Z) ?_
            refine mJ_isub dL_holds_533 ?_
            refine mJ_icmp_gt 541 dL_holds_534 rfl (fun c_534 => False.elim (by exact gd.2 (by rw [l1 c_515]; exact c_534))) (fun c_534 => ?_)
            refine mJ_iconst (v := 1) dL_holds_537 rfl ?_
            refine mJ_goto 542 dL_holds_538 rfl ?_
            refine mJ_icmp_ne 549 dL_holds_542 rfl (fun c => absurd c (by decide)) (fun _ => ?_)
            refine mJ_iconst (v := 1) dL_holds_545 rfl ?_
            refine mJ_goto 550 dL_holds_546 rfl ?_
            refine mJ_istore_n dL_holds_550 (Nat.le_of_ble_eq_true rfl) (ls2 := [_, _, _, _, _, _, _, _, _, _, _, _, _]) rfl ?_
            refine mJ_iconst (v := 0) dL_holds_551 rfl ?_
            refine mJ_istore dL_holds_552 (Nat.le_of_ble_eq_true rfl) (ls2 := [_, _, _, _, _, _, _, _, _, _, _, _, _]) rfl ?_
            exact hk
          · refine mJ_iload dL_holds_518 rfl ?_
            refine mJ_goto 525 dL_holds_520 rfl ?_
            refine mJ_iconst (v := 1) dL_holds_525 rfl ?_
            refine mJ_isub dL_holds_526 ?_
            refine mJ_aload_n dL_holds_527 rfl ?_
            refine mJ_bipush (v := 12) dL_holds_528 rfl ?_
            refine mJ_cV1i dL_holds_530 e_X7_count n_L_9 ⟨Nat.le_of_ble_eq_true rfl, Nat.le_of_ble_eq_true rfl⟩ rfl rfl (Nat.le_of_ble_eq_true rfl) (Q_count_12 Z) ?_
            refine mJ_isub dL_holds_533 ?_
            refine mJ_icmp_gt 541 dL_holds_534 rfl (fun c_534 => False.elim (by exact gd.2 (by rw [l2 c_515]; exact c_534))) (fun c_534 => ?_)
            refine mJ_iconst (v := 1) dL_holds_537 rfl ?_
            refine mJ_goto 542 dL_holds_538 rfl ?_
            refine mJ_icmp_ne 549 dL_holds_542 rfl (fun c => absurd c (by decide)) (fun _ => ?_)
            refine mJ_iconst (v := 1) dL_holds_545 rfl ?_
            refine mJ_goto 550 dL_holds_546 rfl ?_
            refine mJ_istore_n dL_holds_550 (Nat.le_of_ble_eq_true rfl) (ls2 := [_, _, _, _, _, _, _, _, _, _, _, _, _]) rfl ?_
            refine mJ_iconst (v := 0) dL_holds_551 rfl ?_
            refine mJ_istore dL_holds_552 (Nat.le_of_ble_eq_true rfl) (ls2 := [_, _, _, _, _, _, _, _, _, _, _, _, _]) rfl ?_
            exact hk
      · have g1 : b2i (p_gd d h ((p_all d nA nH nO).2.1 h)) = 0 := b2i_f gd
        refine mJ_iload dL_holds_43 rfl ?_
        refine mJ_aload_n dL_holds_45 rfl ?_
        refine mJ_iconst (v := 5) dL_holds_46 rfl ?_
        refine mJ_cV1i dL_holds_47 e_X7_count n_L_9 ⟨Nat.le_of_ble_eq_true rfl, Nat.le_of_ble_eq_true rfl⟩ rfl rfl (Nat.le_of_ble_eq_true rfl) (Q_count_5 Z) ?_
        refine mJ_icmp_ge 672 dL_holds_50 rfl (fun c_50 => False.elim (by exact nI_ge hh (by omega) c_50)) (fun c_50 => ?_)
        refine mJ_iload_n dL_holds_53 rfl ?_
        refine mJ_if_eq 672 dL_holds_54 rfl (fun c => absurd c (by decide)) (fun _ => ?_)
        refine mJ_aload_n dL_holds_57 rfl ?_
        refine mJ_iload dL_holds_58 rfl ?_
        refine mJ_bipush (v := 8) dL_holds_60 rfl ?_
        refine mJ_cV2i dL_holds_62 e_X7_hintOf n_L_15 ⟨Nat.le_of_ble_eq_true rfl, Nat.le_of_ble_eq_true rfl⟩ rfl rfl (Nat.le_of_ble_eq_true rfl) (mCt_val e0 (Q_hint_8 Z hh)) ?_
        refine mJ_istore dL_holds_65 (Nat.le_of_ble_eq_true rfl) (ls2 := [_, _, _, _, _, _, _, _, _, _, _, _, _]) rfl ?_
        refine mJ_aload_n dL_holds_67 rfl ?_
        refine mJ_iload dL_holds_68 rfl ?_
        refine mJ_bipush (v := 9) dL_holds_70 rfl ?_
        refine mJ_cV2i dL_holds_72 e_X7_hintOf n_L_15 ⟨Nat.le_of_ble_eq_true rfl, Nat.le_of_ble_eq_true rfl⟩ rfl rfl (Nat.le_of_ble_eq_true rfl) (Q_hint_9 Z hh gs) ?_
        refine mJ_istore dL_holds_75 (Nat.le_of_ble_eq_true rfl) (ls2 := [_, _, _, _, _, _, _, _, _, _, _, _, _]) rfl ?_
        refine mJ_iload_n dL_holds_77 rfl ?_
        refine mJ_iload dL_holds_78 rfl ?_
        refine mJ_iconst (v := 1) dL_holds_80 rfl ?_
        refine mJ_icmp_ne 88 dL_holds_81 rfl (fun _ => ?_) (fun c => absurd c (by decide))
        refine mJ_iconst (v := 1) dL_holds_88 rfl ?_
        refine mJ_iadd dL_holds_89 ?_
        refine mJ_istore_n dL_holds_90 (Nat.le_of_ble_eq_true rfl) (ls2 := [_, _, _, _, _, _, _, _, _, _, _, _, _]) rfl ?_
        refine mJ_iload_n dL_holds_91 rfl ?_
        refine mJ_iload dL_holds_92 rfl ?_
        refine mJ_if_ne 101 dL_holds_94 rfl (fun c => absurd c (by decide)) (fun _ => ?_)
        refine mJ_iconst (v := 1) dL_holds_97 rfl ?_
        refine mJ_goto 102 dL_holds_98 rfl ?_
        refine mJ_iadd dL_holds_102 ?_
        refine mJ_istore_n dL_holds_103 (Nat.le_of_ble_eq_true rfl) (ls2 := [_, _, _, _, _, _, _, _, _, _, _, _, _]) rfl ?_
        refine mJ_iload dL_holds_104 rfl ?_
        refine mJ_if_ne 113 dL_holds_106 rfl (fun c => absurd c (by decide)) (fun _ => ?_)
        refine mJ_iconst (v := 1) dL_holds_109 rfl ?_
        refine mJ_goto 114 dL_holds_110 rfl ?_
        refine mJ_iload dL_holds_114 rfl ?_
        refine mJ_if_lt 123 dL_holds_116 rfl (fun c_116 => False.elim (by exact sd_pos hsd c_116)) (fun c_116 => ?_)
        refine mJ_iconst (v := 1) dL_holds_119 rfl ?_
        refine mJ_goto 124 dL_holds_120 rfl ?_
        refine mJ_icmp_ne 212 dL_holds_124 rfl (fun c => absurd c (by decide)) (fun _ => ?_)
        refine mJ_iload dL_holds_127 rfl ?_
        refine mJ_iconst (v := 1) dL_holds_129 rfl ?_
        refine mJ_icmp_ne 137 dL_holds_130 rfl (fun _ => ?_) (fun c => absurd c (by decide))
        refine mJ_iconst (v := 0) dL_holds_137 rfl ?_
        refine mJ_aload_n dL_holds_138 rfl ?_
        refine mJ_iload dL_holds_139 rfl ?_
        refine mJ_bipush (v := 16) dL_holds_141 rfl ?_
        refine mJ_cV2i dL_holds_143 e_X7_hintOf n_L_15 ⟨Nat.le_of_ble_eq_true rfl, Nat.le_of_ble_eq_true rfl⟩ rfl rfl (Nat.le_of_ble_eq_true rfl) (mCt_val ((iO_at (ordL_nodup hi) hi2).trans (by rw [Nat.zero_add])) (Q_hint_16 Z hh)) ?_
        refine mJ_sipush (v := (-10004)) dL_holds_146 rfl ?_
        refine mJ_icmp_ne 156 dL_holds_149 rfl (fun c_149 => ?_) (fun c_149 => False.elim (by exact nI_neg1b (by omega) c_149))
        refine mJ_iconst (v := 0) dL_holds_156 rfl ?_
        refine mJ_icmp_ne 212 dL_holds_157 rfl (fun c => absurd c (by decide)) (fun _ => ?_)
        refine mJ_iload dL_holds_160 rfl ?_
        refine mJ_iconst (v := 5) dL_holds_162 rfl ?_
        refine mJ_icmp_ne 181 dL_holds_163 rfl (fun _ => ?_) (fun c => absurd c (by decide))
        refine mJ_iload dL_holds_181 rfl ?_
        refine mJ_iconst (v := 2) dL_holds_183 rfl ?_
        refine mJ_icmp_gt 208 dL_holds_184 rfl (fun c => absurd c (by decide)) (fun _ => ?_)
        refine mJ_iload dL_holds_187 rfl ?_
        refine mJ_iconst (v := 2) dL_holds_189 rfl ?_
        refine mJ_icmp_lt 208 dL_holds_190 rfl (fun _ => ?_) (fun c => absurd c (by decide))
        refine mJ_iconst (v := 1) dL_holds_208 rfl ?_
        refine mJ_goto 213 dL_holds_209 rfl ?_
        refine mJ_istore_n dL_holds_213 (Nat.le_of_ble_eq_true rfl) (ls2 := [_, _, _, _, _, _, _, _, _, _, _, _, _]) rfl ?_
        refine mJ_iload_n dL_holds_214 rfl ?_
        refine mJ_if_eq 666 dL_holds_215 rfl (fun c => absurd c (by decide)) (fun _ => ?_)
        refine mJ_iload dL_holds_218 rfl ?_
        refine mJ_if_ne 666 dL_holds_220 rfl (fun c => absurd c (by decide)) (fun _ => ?_)
        refine mJ_aload_n dL_holds_223 rfl ?_
        refine mJ_iload dL_holds_224 rfl ?_
        refine mJ_bipush (v := 10) dL_holds_226 rfl ?_
        refine mJ_cV2i dL_holds_228 e_X7_hintOf n_L_15 ⟨Nat.le_of_ble_eq_true rfl, Nat.le_of_ble_eq_true rfl⟩ rfl rfl (Nat.le_of_ble_eq_true rfl) (Q_hint_10 Z hh gs) ?_
        refine mJ_istore dL_holds_231 (Nat.le_of_ble_eq_true rfl) (ls2 := [_, _, _, _, _, _, _, _, _, _, _, _, _]) rfl ?_
        refine mJ_aload_n dL_holds_233 rfl ?_
        refine mJ_iload dL_holds_234 rfl ?_
        refine mJ_bipush (v := 11) dL_holds_236 rfl ?_
        refine mJ_cV2i dL_holds_238 e_X7_hintOf n_L_15 ⟨Nat.le_of_ble_eq_true rfl, Nat.le_of_ble_eq_true rfl⟩ rfl rfl (Nat.le_of_ble_eq_true rfl) (Q_hint_11 Z hh gs) ?_
        refine mJ_istore dL_holds_241 (Nat.le_of_ble_eq_true rfl) (ls2 := [_, _, _, _, _, _, _, _, _, _, _, _, _]) rfl ?_
        refine mJ_aload_n dL_holds_243 rfl ?_
        refine mJ_iload dL_holds_244 rfl ?_
        refine mJ_iconst (v := 1) dL_holds_246 rfl ?_
        refine mJ_cV2i dL_holds_247 e_X7_hintOf n_L_15 ⟨Nat.le_of_ble_eq_true rfl, Nat.le_of_ble_eq_true rfl⟩ rfl rfl (Nat.le_of_ble_eq_true rfl) (Q_hint_1 Z hh) ?_
        refine mJ_istore dL_holds_250 (Nat.le_of_ble_eq_true rfl) (ls2 := [_, _, _, _, _, _, _, _, _, _, _, _, _]) rfl ?_
        refine mJ_aload_n dL_holds_252 rfl ?_
        refine mJ_iload dL_holds_253 rfl ?_
        refine mJ_iconst (v := 2) dL_holds_255 rfl ?_
        refine mJ_cV2i dL_holds_256 e_X7_hintOf n_L_15 ⟨Nat.le_of_ble_eq_true rfl, Nat.le_of_ble_eq_true rfl⟩ rfl rfl (Nat.le_of_ble_eq_true rfl) (Q_hint_2 Z hh) ?_
        refine mJ_istore dL_holds_259 (Nat.le_of_ble_eq_true rfl) (ls2 := [_, _, _, _, _, _, _, _, _, _, _, _, _]) rfl ?_
        refine mJ_iload dL_holds_261 rfl ?_
        refine mJ_aload_n dL_holds_263 rfl ?_
        refine mJ_iconst (v := 0) dL_holds_264 rfl ?_
        refine mJ_cV1i dL_holds_265 e_X7_count n_L_9 ⟨Nat.le_of_ble_eq_true rfl, Nat.le_of_ble_eq_true rfl⟩ rfl rfl (Nat.le_of_ble_eq_true rfl) (Q_count_0 Z) ?_
        refine mJ_icmp_lt 404 dL_holds_268 rfl (fun c_268 => False.elim (by exact hin.1.1 c_268)) (fun c_268 => ?_)
        refine mJ_iload dL_holds_271 rfl ?_
        refine mJ_aload_n dL_holds_273 rfl ?_
        refine mJ_iconst (v := 1) dL_holds_274 rfl ?_
        refine mJ_cV1i dL_holds_275 e_X7_count n_L_9 ⟨Nat.le_of_ble_eq_true rfl, Nat.le_of_ble_eq_true rfl⟩ rfl rfl (Nat.le_of_ble_eq_true rfl) (Q_count_1 Z) ?_
        refine mJ_icmp_lt 404 dL_holds_278 rfl (fun c_278 => False.elim (by exact hin.2.1 c_278)) (fun c_278 => ?_)
        refine mJ_iload dL_holds_281 rfl ?_
        refine mJ_iload dL_holds_283 rfl ?_
        refine mJ_iadd dL_holds_285 ?_
        refine mJ_aload_n dL_holds_286 rfl ?_
        refine mJ_iconst (v := 0) dL_holds_287 rfl ?_
        refine mJ_cV1i dL_holds_288 e_X7_count n_L_9 ⟨Nat.le_of_ble_eq_true rfl, Nat.le_of_ble_eq_true rfl⟩ rfl rfl (Nat.le_of_ble_eq_true rfl) (Q_count_0 Z) ?_
        refine mJ_aload_n dL_holds_291 rfl ?_
        refine mJ_iconst (v := 2) dL_holds_292 rfl ?_
        refine mJ_cV1i dL_holds_293 e_X7_count n_L_9 ⟨Nat.le_of_ble_eq_true rfl, Nat.le_of_ble_eq_true rfl⟩ rfl rfl (Nat.le_of_ble_eq_true rfl) (Q_count_2 Z) ?_
        refine mJ_iadd dL_holds_296 ?_
        refine mJ_icmp_gt 404 dL_holds_297 rfl (fun c_297 => False.elim (by exact hin.1.2 c_297)) (fun c_297 => ?_)
        refine mJ_iload dL_holds_300 rfl ?_
        refine mJ_iload dL_holds_302 rfl ?_
        refine mJ_iadd dL_holds_304 ?_
        refine mJ_aload_n dL_holds_305 rfl ?_
        refine mJ_iconst (v := 1) dL_holds_306 rfl ?_
        refine mJ_cV1i dL_holds_307 e_X7_count n_L_9 ⟨Nat.le_of_ble_eq_true rfl, Nat.le_of_ble_eq_true rfl⟩ rfl rfl (Nat.le_of_ble_eq_true rfl) (Q_count_1 Z) ?_
        refine mJ_aload_n dL_holds_310 rfl ?_
        refine mJ_iconst (v := 3) dL_holds_311 rfl ?_
        refine mJ_cV1i dL_holds_312 e_X7_count n_L_9 ⟨Nat.le_of_ble_eq_true rfl, Nat.le_of_ble_eq_true rfl⟩ rfl rfl (Nat.le_of_ble_eq_true rfl) (Q_count_3 Z) ?_
        refine mJ_iadd dL_holds_315 ?_
        refine mJ_icmp_gt 404 dL_holds_316 rfl (fun c_316 => False.elim (by exact hin.2.2 c_316)) (fun c_316 => ?_)
        refine mJ_aload_n dL_holds_319 rfl ?_
        refine mJ_iload dL_holds_320 rfl ?_
        refine mJ_iload dL_holds_322 rfl ?_
        refine mJ_iconst (v := 0) dL_holds_324 rfl ?_
        refine mJ_cV3i dL_holds_325 e_X7_ifOn n_L_22 ⟨Nat.le_of_ble_eq_true rfl, Nat.le_of_ble_eq_true rfl⟩ rfl rfl (Nat.le_of_ble_eq_true rfl) (mCt_val b1 (Q_ifOn_0 Z hh gs)) ?_
        refine mJ_iconst (v := 1) dL_holds_328 rfl ?_
        refine mJ_icmp_ne 404 dL_holds_329 rfl (fun c => absurd c (by decide)) (fun _ => ?_)
        refine mJ_aload_n dL_holds_332 rfl ?_
        refine mJ_iload dL_holds_333 rfl ?_
        refine mJ_iload dL_holds_335 rfl ?_
        refine mJ_iconst (v := 1) dL_holds_337 rfl ?_
        refine mJ_cV3i dL_holds_338 e_X7_ifOn n_L_22 ⟨Nat.le_of_ble_eq_true rfl, Nat.le_of_ble_eq_true rfl⟩ rfl rfl (Nat.le_of_ble_eq_true rfl) (Q_ifOn_1 Z hh gs) ?_
        refine mJ_iload dL_holds_341 rfl ?_
        refine mJ_icmp_ne 404 dL_holds_343 rfl (fun c_343 => False.elim (by exact c_343 rfl)) (fun c_343 => ?_)
        refine mJ_aload_n dL_holds_346 rfl ?_
        refine mJ_iload dL_holds_347 rfl ?_
        refine mJ_iload dL_holds_349 rfl ?_
        refine mJ_iconst (v := 2) dL_holds_351 rfl ?_
        refine mJ_cV3i dL_holds_352 e_X7_ifOn n_L_22 ⟨Nat.le_of_ble_eq_true rfl, Nat.le_of_ble_eq_true rfl⟩ rfl rfl (Nat.le_of_ble_eq_true rfl) (Q_ifOn_2 Z hh gs) ?_
        refine mJ_iload dL_holds_355 rfl ?_
        refine mJ_icmp_ne 404 dL_holds_357 rfl (fun c_357 => False.elim (by exact c_357 rfl)) (fun c_357 => ?_)
        refine mJ_aload_n dL_holds_360 rfl ?_
        refine mJ_iload dL_holds_361 rfl ?_
        refine mJ_iload dL_holds_363 rfl ?_
        refine mJ_iconst (v := 3) dL_holds_365 rfl ?_
        refine mJ_cV3i dL_holds_366 e_X7_ifOn n_L_22 ⟨Nat.le_of_ble_eq_true rfl, Nat.le_of_ble_eq_true rfl⟩ rfl rfl (Nat.le_of_ble_eq_true rfl) (Q_ifOn_3 Z hh gs) ?_
        refine mJ_aload_n dL_holds_369 rfl ?_
        refine mJ_iload dL_holds_370 rfl ?_
        refine mJ_bipush (v := 14) dL_holds_372 rfl ?_
        refine mJ_cV2i dL_holds_374 e_X7_hintOf n_L_15 ⟨Nat.le_of_ble_eq_true rfl, Nat.le_of_ble_eq_true rfl⟩ rfl rfl (Nat.le_of_ble_eq_true rfl) (Q_hint_14 Z hh gs) ?_
        refine mJ_icmp_ne 404 dL_holds_377 rfl (fun c_377 => False.elim (by exact c_377 rfl)) (fun c_377 => ?_)
        refine mJ_aload_n dL_holds_380 rfl ?_
        refine mJ_iload dL_holds_381 rfl ?_
        refine mJ_iload dL_holds_383 rfl ?_
        refine mJ_iconst (v := 4) dL_holds_385 rfl ?_
        refine mJ_cV3i dL_holds_386 e_X7_ifOn n_L_22 ⟨Nat.le_of_ble_eq_true rfl, Nat.le_of_ble_eq_true rfl⟩ rfl rfl (Nat.le_of_ble_eq_true rfl) (Q_ifOn_4 Z hh gs) ?_
        refine mJ_aload_n dL_holds_389 rfl ?_
        refine mJ_iload dL_holds_390 rfl ?_
        refine mJ_bipush (v := 12) dL_holds_392 rfl ?_
        refine mJ_cV2i dL_holds_394 e_X7_hintOf n_L_15 ⟨Nat.le_of_ble_eq_true rfl, Nat.le_of_ble_eq_true rfl⟩ rfl rfl (Nat.le_of_ble_eq_true rfl) (Q_hint_12 Z hh gs) ?_
        refine mJ_icmp_ne 404 dL_holds_397 rfl (fun c_397 => False.elim (by exact c_397 rfl)) (fun c_397 => ?_)
        refine mJ_iconst (v := 1) dL_holds_400 rfl ?_
        refine mJ_goto 405 dL_holds_401 rfl ?_
        refine mJ_istore_n dL_holds_405 (Nat.le_of_ble_eq_true rfl) (ls2 := [_, _, _, _, _, _, _, _, _, _, _, _, _]) rfl ?_
        refine mJ_iload_n dL_holds_406 rfl ?_
        refine mJ_if_eq 549 dL_holds_407 rfl (fun c => absurd c (by decide)) (fun _ => ?_)
        refine mJ_aload_n dL_holds_410 rfl ?_
        refine mJ_iload dL_holds_411 rfl ?_
        refine mJ_iload dL_holds_413 rfl ?_
        refine mJ_cV2i dL_holds_415 e_X7_at n_L_26 ⟨Nat.le_of_ble_eq_true rfl, Nat.le_of_ble_eq_true rfl⟩ rfl rfl (Nat.le_of_ble_eq_true rfl) (mCt_val t1 (Q_at Z (q_in_R (F := 3000) r1 (by decide) (by decide) (by omega) (by omega)) (q_in_R (F := 3000) r2 (by decide) (by decide) (by omega) (by omega)))) ?_
        refine mJ_iload dL_holds_418 rfl ?_
        refine mJ_icmp_ne 549 dL_holds_420 rfl (fun c_420 => False.elim (by exact c_420 rfl)) (fun c_420 => ?_)
        refine mJ_aload_n dL_holds_423 rfl ?_
        refine mJ_iload dL_holds_424 rfl ?_
        refine mJ_iload dL_holds_426 rfl ?_
        refine mJ_iadd dL_holds_428 ?_
        refine mJ_iconst (v := 1) dL_holds_429 rfl ?_
        refine mJ_isub dL_holds_430 ?_
        refine mJ_iload dL_holds_431 rfl ?_
        refine mJ_iload dL_holds_433 rfl ?_
        refine mJ_iadd dL_holds_435 ?_
        refine mJ_iconst (v := 1) dL_holds_436 rfl ?_
        refine mJ_isub dL_holds_437 ?_
        refine mJ_cV2i dL_holds_438 e_X7_at n_L_26 ⟨Nat.le_of_ble_eq_true rfl, Nat.le_of_ble_eq_true rfl⟩ rfl rfl (Nat.le_of_ble_eq_true rfl) (mCt_val t2 (Q_at Z (q_in_R (F := 3000) r3 (by decide) (by decide) (by omega) (by omega)) (q_in_R (F := 3000) r4 (by decide) (by decide) (by omega) (by omega)))) ?_
        refine mJ_iload dL_holds_441 rfl ?_
        refine mJ_icmp_ne 549 dL_holds_443 rfl (fun c_443 => False.elim (by exact c_443 rfl)) (fun c_443 => ?_)
        refine mJ_aload_n dL_holds_446 rfl ?_
        refine mJ_iload dL_holds_447 rfl ?_
        refine mJ_bipush (v := 6) dL_holds_449 rfl ?_
        refine mJ_cV2i dL_holds_451 e_X7_hintOf n_L_15 ⟨Nat.le_of_ble_eq_true rfl, Nat.le_of_ble_eq_true rfl⟩ rfl rfl (Nat.le_of_ble_eq_true rfl) (Q_hint_6 Z hh) ?_
        refine mJ_iconst (v := 1) dL_holds_454 rfl ?_
        refine mJ_icmp_eq 469 dL_holds_455 rfl (fun c_455 => ?_) (fun c_455 => ?_)
        · refine mJ_aload_n dL_holds_469 rfl ?_
          refine mJ_iload dL_holds_470 rfl ?_
          refine mJ_bipush (v := 13) dL_holds_472 rfl ?_
          refine mJ_cV2i dL_holds_474 e_X7_hintOf n_L_15 ⟨Nat.le_of_ble_eq_true rfl, Nat.le_of_ble_eq_true rfl⟩ rfl rfl (Nat.le_of_ble_eq_true rfl) (mCt_val g1 (Q_hint_13 Z hh gs)) ?_
          refine mJ_iconst (v := 1) dL_holds_477 rfl ?_
          refine mJ_icmp_ne 485 dL_holds_478 rfl (fun _ => ?_) (fun c => absurd c (by decide))
          refine mJ_iconst (v := 0) dL_holds_485 rfl ?_
          refine mJ_aload_n dL_holds_486 rfl ?_
          refine mJ_iload dL_holds_487 rfl ?_
          refine mJ_bipush (v := 12) dL_holds_489 rfl ?_
          refine mJ_cV2i dL_holds_491 e_X7_hintOf n_L_15 ⟨Nat.le_of_ble_eq_true rfl, Nat.le_of_ble_eq_true rfl⟩ rfl rfl (Nat.le_of_ble_eq_true rfl) (Q_hint_12 Z hh gs) ?_
          refine mJ_aload_n dL_holds_494 rfl ?_
          refine mJ_bipush (v := 12) dL_holds_495 rfl ?_
          refine mJ_cV1i dL_holds_497 e_X7_count n_L_9 ⟨Nat.le_of_ble_eq_true rfl, Nat.le_of_ble_eq_true rfl⟩ rfl rfl (Nat.le_of_ble_eq_true rfl) (Q_count_12 Z) ?_
          refine mJ_icmp_lt 541 dL_holds_500 rfl (fun c_500 => ?_) (fun c_500 => ?_)
          · refine mJ_iconst (v := 0) dL_holds_541 rfl ?_
            refine mJ_icmp_ne 549 dL_holds_542 rfl (fun c => absurd c (by decide)) (fun _ => ?_)
            refine mJ_iconst (v := 1) dL_holds_545 rfl ?_
            refine mJ_goto 550 dL_holds_546 rfl ?_
            refine mJ_istore_n dL_holds_550 (Nat.le_of_ble_eq_true rfl) (ls2 := [_, _, _, _, _, _, _, _, _, _, _, _, _]) rfl ?_
            refine mJ_iconst (v := 0) dL_holds_551 rfl ?_
            refine mJ_istore dL_holds_552 (Nat.le_of_ble_eq_true rfl) (ls2 := [_, _, _, _, _, _, _, _, _, _, _, _, _]) rfl ?_
            exact hk
          · refine mJ_aload_n dL_holds_503 rfl ?_
            refine mJ_iload dL_holds_504 rfl ?_
            refine mJ_bipush (v := 12) dL_holds_506 rfl ?_
            refine mJ_cV2i dL_holds_508 e_X7_hintOf n_L_15 ⟨Nat.le_of_ble_eq_true rfl, Nat.le_of_ble_eq_true rfl⟩ rfl rfl (Nat.le_of_ble_eq_true rfl) (Q_hint_12 Z hh gs) ?_
            refine mJ_iload dL_holds_511 rfl ?_
            refine mJ_iconst (v := 2) dL_holds_513 rfl ?_
            refine mJ_irem dL_holds_514 (by decide) ?_
            refine mJ_if_ne 523 dL_holds_515 rfl (fun c_515 => ?_) (fun c_515 => ?_)
            · refine mJ_iload dL_holds_523 rfl ?_
              refine mJ_iconst (v := 1) dL_holds_525 rfl ?_
              refine mJ_isub dL_holds_526 ?_
              refine mJ_aload_n dL_holds_527 rfl ?_
              refine mJ_bipush (v := 12) dL_holds_528 rfl ?_
              refine mJ_cV1i dL_holds_530 e_X7_count n_L_9 ⟨Nat.le_of_ble_eq_true rfl, Nat.le_of_ble_eq_true rfl⟩ rfl rfl (Nat.le_of_ble_eq_true rfl) (Q_count_12 Z) ?_
              refine mJ_isub dL_holds_533 ?_
              refine mJ_icmp_gt 541 dL_holds_534 rfl (fun c_534 => ?_) (fun c_534 => False.elim (by exact gd ⟨c_500, by rw [l1 c_515]; exact c_534⟩))
              refine mJ_iconst (v := 0) dL_holds_541 rfl ?_
              refine mJ_icmp_ne 549 dL_holds_542 rfl (fun c => absurd c (by decide)) (fun _ => ?_)
              refine mJ_iconst (v := 1) dL_holds_545 rfl ?_
              refine mJ_goto 550 dL_holds_546 rfl ?_
              refine mJ_istore_n dL_holds_550 (Nat.le_of_ble_eq_true rfl) (ls2 := [_, _, _, _, _, _, _, _, _, _, _, _, _]) rfl ?_
              refine mJ_iconst (v := 0) dL_holds_551 rfl ?_
              refine mJ_istore dL_holds_552 (Nat.le_of_ble_eq_true rfl) (ls2 := [_, _, _, _, _, _, _, _, _, _, _, _, _]) rfl ?_
              exact hk
            · refine mJ_iload dL_holds_518 rfl ?_
              refine mJ_goto 525 dL_holds_520 rfl ?_
              refine mJ_iconst (v := 1) dL_holds_525 rfl ?_
              refine mJ_isub dL_holds_526 ?_
              refine mJ_aload_n dL_holds_527 rfl ?_
              refine mJ_bipush (v := 12) dL_holds_528 rfl ?_
              refine mJ_cV1i dL_holds_530 e_X7_count n_L_9 ⟨Nat.le_of_ble_eq_true rfl, Nat.le_of_ble_eq_true rfl⟩ rfl rfl (Nat.le_of_ble_eq_true rfl) (Q_count_12 Z) ?_
              refine mJ_isub dL_holds_533 ?_
              refine mJ_icmp_gt 541 dL_holds_534 rfl (fun c_534 => ?_) (fun c_534 => False.elim (by exact gd ⟨c_500, by rw [l2 c_515]; exact c_534⟩))
              refine mJ_iconst (v := 0) dL_holds_541 rfl ?_
              refine mJ_icmp_ne 549 dL_holds_542 rfl (fun c => absurd c (by decide)) (fun _ => ?_)
              refine mJ_iconst (v := 1) dL_holds_545 rfl ?_
              refine mJ_goto 550 dL_holds_546 rfl ?_
              refine mJ_istore_n dL_holds_550 (Nat.le_of_ble_eq_true rfl) (ls2 := [_, _, _, _, _, _, _, _, _, _, _, _, _]) rfl ?_
              refine mJ_iconst (v := 0) dL_holds_551 rfl ?_
              refine mJ_istore dL_holds_552 (Nat.le_of_ble_eq_true rfl) (ls2 := [_, _, _, _, _, _, _, _, _, _, _, _, _]) rfl ?_
              exact hk
        · refine mJ_aload_n dL_holds_458 rfl ?_
          refine mJ_iload dL_holds_459 rfl ?_
          refine mJ_bipush (v := 14) dL_holds_461 rfl ?_
          refine mJ_cV2i dL_holds_463 e_X7_hintOf n_L_15 ⟨Nat.le_of_ble_eq_true rfl, Nat.le_of_ble_eq_true rfl⟩ rfl rfl (Nat.le_of_ble_eq_true rfl) (Q_hint_14 Z hh gs) ?_
          refine mJ_if_ne 549 dL_holds_466 rfl (fun c_466 => False.elim (by exact c_466 (if_neg c_455))) (fun c_466 => ?_)
          refine mJ_aload_n dL_holds_469 rfl ?_
          refine mJ_iload dL_holds_470 rfl ?_
          refine mJ_bipush (v := 13) dL_holds_472 rfl ?_
          refine mJ_cV2i dL_holds_474 e_X7_hintOf n_L_15 ⟨Nat.le_of_ble_eq_true rfl, Nat.le_of_ble_eq_true rfl⟩ rfl rfl (Nat.le_of_ble_eq_true rfl) (mCt_val g1 (Q_hint_13 Z hh gs)) ?_
          refine mJ_iconst (v := 1) dL_holds_477 rfl ?_
          refine mJ_icmp_ne 485 dL_holds_478 rfl (fun _ => ?_) (fun c => absurd c (by decide))
          refine mJ_iconst (v := 0) dL_holds_485 rfl ?_
          refine mJ_aload_n dL_holds_486 rfl ?_
          refine mJ_iload dL_holds_487 rfl ?_
          refine mJ_bipush (v := 12) dL_holds_489 rfl ?_
          refine mJ_cV2i dL_holds_491 e_X7_hintOf n_L_15 ⟨Nat.le_of_ble_eq_true rfl, Nat.le_of_ble_eq_true rfl⟩ rfl rfl (Nat.le_of_ble_eq_true rfl) (Q_hint_12 Z hh gs) ?_
          refine mJ_aload_n dL_holds_494 rfl ?_
          refine mJ_bipush (v := 12) dL_holds_495 rfl ?_
          refine mJ_cV1i dL_holds_497 e_X7_count n_L_9 ⟨Nat.le_of_ble_eq_true rfl, Nat.le_of_ble_eq_true rfl⟩ rfl rfl (Nat.le_of_ble_eq_true rfl) (Q_count_12 Z) ?_
          refine mJ_icmp_lt 541 dL_holds_500 rfl (fun c_500 => ?_) (fun c_500 => ?_)
          · refine mJ_iconst (v := 0) dL_holds_541 rfl ?_
            refine mJ_icmp_ne 549 dL_holds_542 rfl (fun c => absurd c (by decide)) (fun _ => ?_)
            refine mJ_iconst (v := 1) dL_holds_545 rfl ?_
            refine mJ_goto 550 dL_holds_546 rfl ?_
            refine mJ_istore_n dL_holds_550 (Nat.le_of_ble_eq_true rfl) (ls2 := [_, _, _, _, _, _, _, _, _, _, _, _, _]) rfl ?_
            refine mJ_iconst (v := 0) dL_holds_551 rfl ?_
            refine mJ_istore dL_holds_552 (Nat.le_of_ble_eq_true rfl) (ls2 := [_, _, _, _, _, _, _, _, _, _, _, _, _]) rfl ?_
            exact hk
          · refine mJ_aload_n dL_holds_503 rfl ?_
            refine mJ_iload dL_holds_504 rfl ?_
            refine mJ_bipush (v := 12) dL_holds_506 rfl ?_
            refine mJ_cV2i dL_holds_508 e_X7_hintOf n_L_15 ⟨Nat.le_of_ble_eq_true rfl, Nat.le_of_ble_eq_true rfl⟩ rfl rfl (Nat.le_of_ble_eq_true rfl) (Q_hint_12 Z hh gs) ?_
            refine mJ_iload dL_holds_511 rfl ?_
            refine mJ_iconst (v := 2) dL_holds_513 rfl ?_
            refine mJ_irem dL_holds_514 (by decide) ?_
            refine mJ_if_ne 523 dL_holds_515 rfl (fun c_515 => ?_) (fun c_515 => ?_)
            · refine mJ_iload dL_holds_523 rfl ?_
              refine mJ_iconst (v := 1) dL_holds_525 rfl ?_
              refine mJ_isub dL_holds_526 ?_
              refine mJ_aload_n dL_holds_527 rfl ?_
              refine mJ_bipush (v := 12) dL_holds_528 rfl ?_
              refine mJ_cV1i dL_holds_530 e_X7_count n_L_9 ⟨Nat.le_of_ble_eq_true rfl, Nat.le_of_ble_eq_true rfl⟩ rfl rfl (Nat.le_of_ble_eq_true rfl) (Q_count_12 Z) ?_
              refine mJ_isub dL_holds_533 ?_
              refine mJ_icmp_gt 541 dL_holds_534 rfl (fun c_534 => ?_) (fun c_534 => False.elim (by exact gd ⟨c_500, by rw [l1 c_515]; exact c_534⟩))
              refine mJ_iconst (v := 0) dL_holds_541 rfl ?_
              refine mJ_icmp_ne 549 dL_holds_542 rfl (fun c => absurd c (by decide)) (fun _ => ?_)
              refine mJ_iconst (v := 1) dL_holds_545 rfl ?_
              refine mJ_goto 550 dL_holds_546 rfl ?_
              refine mJ_istore_n dL_holds_550 (Nat.le_of_ble_eq_true rfl) (ls2 := [_, _, _, _, _, _, _, _, _, _, _, _, _]) rfl ?_
              refine mJ_iconst (v := 0) dL_holds_551 rfl ?_
              refine mJ_istore dL_holds_552 (Nat.le_of_ble_eq_true rfl) (ls2 := [_, _, _, _, _, _, _, _, _, _, _, _, _]) rfl ?_
              exact hk
            · refine mJ_iload dL_holds_518 rfl ?_
              refine mJ_goto 525 dL_holds_520 rfl ?_
              refine mJ_iconst (v := 1) dL_holds_525 rfl ?_
              refine mJ_isub dL_holds_526 ?_
              refine mJ_aload_n dL_holds_527 rfl ?_
              refine mJ_bipush (v := 12) dL_holds_528 rfl ?_
              refine mJ_cV1i dL_holds_530 e_X7_count n_L_9 ⟨Nat.le_of_ble_eq_true rfl, Nat.le_of_ble_eq_true rfl⟩ rfl rfl (Nat.le_of_ble_eq_true rfl) (Q_count_12 Z) ?_
              refine mJ_isub dL_holds_533 ?_
              refine mJ_icmp_gt 541 dL_holds_534 rfl (fun c_534 => ?_) (fun c_534 => False.elim (by exact gd ⟨c_500, by rw [l2 c_515]; exact c_534⟩))
              refine mJ_iconst (v := 0) dL_holds_541 rfl ?_
              refine mJ_icmp_ne 549 dL_holds_542 rfl (fun c => absurd c (by decide)) (fun _ => ?_)
              refine mJ_iconst (v := 1) dL_holds_545 rfl ?_
              refine mJ_goto 550 dL_holds_546 rfl ?_
              refine mJ_istore_n dL_holds_550 (Nat.le_of_ble_eq_true rfl) (ls2 := [_, _, _, _, _, _, _, _, _, _, _, _, _]) rfl ?_
              refine mJ_iconst (v := 0) dL_holds_551 rfl ?_
              refine mJ_istore dL_holds_552 (Nat.le_of_ble_eq_true rfl) (ls2 := [_, _, _, _, _, _, _, _, _, _, _, _, _]) rfl ?_
              exact hk
set_option maxHeartbeats 4000000 in
set_option maxRecDepth 100000 in
theorem C_L_holds {C W : aF} {o n : Nat} {RS SD XS YS OR : aF} {shn : Int32} {T1 : tT} {P1 : tP} {Od : tO} {T2 : tT} {d : aF} {nA nH nO B : Nat} (Z : zO C d RS SD XS YS shn nA nH nO B) {P2 : tP} : ∃ P2' : tP, mCt k_L_holds [.ref 0] (cH C (W, nI o, nI n) (RS, SD, XS, YS, OR, shn) T1 P1 Od T2 (P2)) (some (.int 1)) (cH C (W, nI o, nI n) (RS, SD, XS, YS, OR, shn) T1 P1 Od T2 (P2')) := by
  obtain ⟨hw, hR, hi⟩ := zO_w Z
  obtain ⟨F1, F2, F3, F4, c, q, f1, f2, f3, f4, f5, f6, f7⟩ := p_facts hw hi hR
  have lO := hw.2.2.1
  obtain ⟨P3, hk⟩ := L_holds_o Z nH 0 0 0 .null .null .null .null .null .null .null .null P2 (by omega) rfl rfl
  refine ⟨P3, ?_⟩
  refine mCt_intro (plainFor_of_name rfl) (Nat.le_of_ble_eq_true rfl) (m_all rfl) (ls := [_, _, _, _, _, _, _, _, _, _, _, _, _]) rfl ?_
  refine mJ_iconst (v := 0) dL_holds_0 rfl ?_
  refine mJ_istore_n dL_holds_1 (Nat.le_of_ble_eq_true rfl) (ls2 := [_, _, _, _, _, _, _, _, _, _, _, _, _]) rfl ?_
  refine mJ_iconst (v := 0) dL_holds_2 rfl ?_
  refine mJ_istore_n dL_holds_3 (Nat.le_of_ble_eq_true rfl) (ls2 := [_, _, _, _, _, _, _, _, _, _, _, _, _]) rfl ?_
  refine mJ_aload_n dL_holds_4 rfl ?_
  refine mJ_bipush (v := 7) dL_holds_5 rfl ?_
  refine mJ_cV1i dL_holds_7 e_X7_count n_L_9 ⟨Nat.le_of_ble_eq_true rfl, Nat.le_of_ble_eq_true rfl⟩ rfl rfl (Nat.le_of_ble_eq_true rfl) (Q_count_7 Z) ?_
  refine mJ_aload_n dL_holds_10 rfl ?_
  refine mJ_bipush (v := 13) dL_holds_11 rfl ?_
  refine mJ_cV1i dL_holds_13 e_X7_count n_L_9 ⟨Nat.le_of_ble_eq_true rfl, Nat.le_of_ble_eq_true rfl⟩ rfl rfl (Nat.le_of_ble_eq_true rfl) (Q_count_13 Z) ?_
  refine mJ_icmp_gt 38 dL_holds_16 rfl (fun c_16 => False.elim (by rw [f1, f3] at c_16; exact nI_nlt f4 (by omega) c_16)) (fun c_16 => ?_)
  refine mJ_aload_n dL_holds_19 rfl ?_
  refine mJ_bipush (v := 7) dL_holds_20 rfl ?_
  refine mJ_cV1i dL_holds_22 e_X7_count n_L_9 ⟨Nat.le_of_ble_eq_true rfl, Nat.le_of_ble_eq_true rfl⟩ rfl rfl (Nat.le_of_ble_eq_true rfl) (Q_count_7 Z) ?_
  refine mJ_aload_n dL_holds_25 rfl ?_
  refine mJ_bipush (v := 6) dL_holds_26 rfl ?_
  refine mJ_cV1i dL_holds_28 e_X7_count n_L_9 ⟨Nat.le_of_ble_eq_true rfl, Nat.le_of_ble_eq_true rfl⟩ rfl rfl (Nat.le_of_ble_eq_true rfl) (Q_count_6 Z) ?_
  refine mJ_icmp_gt 38 dL_holds_31 rfl (fun c_31 => False.elim (by rw [f1] at c_31; exact nI_nlt f6 (by omega) c_31)) (fun c_31 => ?_)
  refine mJ_iconst (v := 1) dL_holds_34 rfl ?_
  refine mJ_goto 39 dL_holds_35 rfl ?_
  refine mJ_istore_n dL_holds_39 (Nat.le_of_ble_eq_true rfl) (ls2 := [_, _, _, _, _, _, _, _, _, _, _, _, _]) rfl ?_
  refine mJ_iconst (v := 0) dL_holds_40 rfl ?_
  refine mJ_istore dL_holds_41 (Nat.le_of_ble_eq_true rfl) (ls2 := [_, _, _, _, _, _, _, _, _, _, _, _, _]) rfl ?_
  exact hk
