/-! FAULTS of the text of orders, of the class and of the reference -/
theorem dig_nI {x : Int32} (h : q_dig x) : ∃ e, e < 10 ∧ x = nI (48 + e) := by
  obtain ⟨h1, h2⟩ := h
  have h0 : ¬ x < 0 := fun z => h1 (Int32.lt_of_lt_of_le z (by decide))
  obtain ⟨j, hj, rfl⟩ := nI_of h0
  rw [show (48 : Int32) = nI 48 from rfl, nI_ltI hj (by omega)] at h1
  rw [show (57 : Int32) = nI 57 from rfl, nI_ltI (by omega) hj] at h2
  exact ⟨j - 48, by omega, by rw [show 48 + (j - 48) = j by omega]⟩
theorem dig_step (a e : Nat) : nI a * 10 + nI (48 + e) - 48 = nI (a * 10 + e) := by
  show nI a * nI 10 + nI (48 + e) - nI 48 = _
  rw [pk_mul, nI_add, pk_sub (by omega), show a * 10 + (48 + e) - 48 = a * 10 + e by omega]
theorem tV_nI {f : aF} {n : Nat} : ∀ (m p a : Nat), ∃ z, z < 10 ^ m * (a + 1) ∧ tV f n m p (nI a) = nI z
  | 0, p, a => ⟨a, by omega, rfl⟩
  | m + 1, p, a => by
    by_cases h : q_dig (xS f n p)
    · obtain ⟨e, he, hx⟩ := dig_nI h
      rw [tV_y h, hx, dig_step]
      obtain ⟨z, hz, hq⟩ := tV_nI (f := f) (n := n) m (p + 1) (a * 10 + e)
      refine ⟨z, Nat.lt_of_lt_of_le hz ?_, hq⟩
      calc 10 ^ m * (a * 10 + e + 1) ≤ 10 ^ m * (10 * (a + 1)) := Nat.mul_le_mul_left _ (by omega)
        _ = 10 ^ (m + 1) * (a + 1) := by rw [← Nat.mul_assoc, Nat.pow_succ]
    · rw [tV_n h]
      refine ⟨a, ?_, rfl⟩
      have : 1 ≤ 10 ^ (m + 1) := Nat.one_le_pow _ _ (by omega)
      calc a < 1 * (a + 1) := by omega
        _ ≤ 10 ^ (m + 1) * (a + 1) := Nat.mul_le_mul_right _ this
theorem tSg_ge (f : aF) (n p : Nat) : p ≤ (tSg f n p).2.2 := by
  unfold tSg
  split
  · show p ≤ p + 1 + tC f n 3 (p + 1); omega
  · show p ≤ p + tC f n 3 p; omega
theorem xO_ok {f : aF} {n p : Nat} {k a b : Int32} {q : Nat} (h : xO f n p = some (k, a, b, q)) : p < q ∧ q ≤ n ∧ (((k = 99 ∨ k = 111) ∧ ∃ m, m < 100 ∧ a = nI m) ∨ k = 118 ∨ k = 116) := by
  have key : ∀ z, xS f n z = 59 → z < n := fun z e => by
    rcases Nat.lt_or_ge z n with c | c
    · exact c
    · rw [xS_ge c] at e; exact absurd e (by decide)
  unfold xO at h
  by_cases k1 : xS f n p = 99 ∨ xS f n p = 111
  · rw [if_pos k1] at h
    by_cases g : 0 < tC f n 2 (p + 1) ∧ xS f n (p + 1 + tC f n 2 (p + 1)) = 59
    · rw [if_pos g] at h
      have h9 := key _ g.2
      obtain ⟨z, hz, hq⟩ := tV_nI (f := f) (n := n) 2 (p + 1) 0
      cases h
      exact ⟨by omega, h9, Or.inl ⟨k1, z, by omega, hq⟩⟩
    · rw [if_neg g] at h; cases h
  · rw [if_neg k1] at h
    by_cases k2 : xS f n p = 118
    · rw [if_pos k2] at h
      by_cases g : 0 < (tSg f n (p + 1)).1 ∧ xS f n (tSg f n (p + 1)).2.2 = 44 ∧ 0 < (tSg f n ((tSg f n (p + 1)).2.2 + 1)).1 ∧ xS f n (tSg f n ((tSg f n (p + 1)).2.2 + 1)).2.2 = 59
      · rw [if_pos g] at h
        have h9 := key _ g.2.2.2
        have t1 := tSg_ge f n (p + 1)
        have t2 := tSg_ge f n ((tSg f n (p + 1)).2.2 + 1)
        cases h
        exact ⟨by omega, h9, Or.inr (Or.inl rfl)⟩
      · rw [if_neg g] at h; cases h
    · rw [if_neg k2] at h
      by_cases k3 : xS f n p = 116
      · rw [if_pos k3] at h
        by_cases g : xS f n (p + 1) = 59
        · rw [if_pos g] at h
          have h9 := key _ g
          cases h
          exact ⟨by omega, h9, Or.inr (Or.inr rfl)⟩
        · rw [if_neg g] at h; cases h
      · rw [if_neg k3] at h; cases h
def xR (f : aF) (n nH p : Nat) : Int32 := match xO f n p with
  | none => 1
  | some (k, a, _, _) => if (k = 111 ∨ k = 99) ∧ nI nH ≤ a then 2 else 0
def xQ (f : aF) (n p : Nat) : Nat := match xO f n p with
  | none => 0
  | some (_, _, _, q) => q
/-- the first fault of the text: its place, its reason -/
def xF (f : aF) (n nH : Nat) : Nat → Nat → Option (Nat × Int32)
  | 0, _ => none
  | m + 1, p => if n ≤ p then none else if xR f n nH p = 0 then xF f n nH m (xQ f n p) else some (p, xR f n nH p)
def fR : Option (Nat × Int32) → Int32
  | none => 0
  | some (_, r) => r
def fP : Option (Nat × Int32) → Int32
  | none => -10004
  | some (p, _) => nI p
theorem xR_n {f : aF} {n nH p : Nat} (h : xO f n p = none) : xR f n nH p = 1 := by unfold xR; rw [h]
theorem xR_2 {f : aF} {n nH p q : Nat} {k a b : Int32} (h : xO f n p = some (k, a, b, q)) (g : (k = 111 ∨ k = 99) ∧ nI nH ≤ a) : xR f n nH p = 2 := by unfold xR; rw [h]; exact if_pos g
theorem xR_0 {f : aF} {n nH p q : Nat} {k a b : Int32} (h : xO f n p = some (k, a, b, q)) (g : ¬ ((k = 111 ∨ k = 99) ∧ nI nH ≤ a)) : xR f n nH p = 0 := by unfold xR; rw [h]; exact if_neg g
theorem xQ_s {f : aF} {n p q : Nat} {k a b : Int32} (h : xO f n p = some (k, a, b, q)) : xQ f n p = q := by unfold xQ; rw [h]
theorem xF_e {f : aF} {n nH m p : Nat} (h : n ≤ p) : xF f n nH m p = none := by
  cases m with
  | zero => rfl
  | succ m => exact if_pos h
theorem xF_g {f : aF} {n nH m p : Nat} (h : ¬ n ≤ p) (g : xR f n nH p = 0) : xF f n nH (m + 1) p = xF f n nH m (xQ f n p) := by
  show (if _ then _ else _) = _
  rw [if_neg h, if_pos g]
theorem xF_b {f : aF} {n nH m p : Nat} {r : Int32} (h : ¬ n ≤ p) (g : xR f n nH p = r) (hr : ¬ r = 0) : xF f n nH (m + 1) p = some (p, r) := by
  show (if _ then _ else _) = _
  rw [if_neg h, if_neg (by rw [g]; exact hr), g]
theorem rgH {v : Int32} {k : Nat} (hk : k < 2 ^ 31) : q_rg v 0 (nI k - 1) ↔ (¬ v < 0 ∧ ¬ nI k ≤ v) := by
  unfold q_rg
  constructor
  · rintro ⟨h1, h2⟩
    refine ⟨h1, fun z => h2 ?_⟩
    obtain ⟨j, hj, rfl⟩ := nI_of h1
    rw [nI_leI hk hj] at z
    cases k with
    | zero => exact Int32.lt_of_lt_of_le (show nI 0 - 1 < 0 by decide) (nI_pos' hj)
    | succ k => rw [nI_pred, nI_ltI (by omega) hj]; omega
  · rintro ⟨h1, h2⟩
    refine ⟨h1, fun z => h2 ?_⟩
    obtain ⟨j, hj, rfl⟩ := nI_of h1
    rw [nI_leI hk hj]
    cases k with
    | zero => omega
    | succ k => rw [nI_pred, nI_ltI (by omega) hj] at z; omega
set_option maxHeartbeats 4000000 in
set_option maxRecDepth 100000 in
theorem L_X1_findFault {C : aF} {Hs : tH} {Sw : tS} {T1 : tT} {P1 : tP} {T2 : tT} {P2 : tP} {f : aF} {n nH : Nat} (hn : n ≤ 60)  : ∀ (m i p : Nat) (bg en kd fi se nu : Int32), i + m = 60 → p < 600 → ∃ Od' : tO, mJ k_X1_findFault 4 [.ref 22, .int (nI nH), .int (nI p), .int (nI i)] [] (cH C Hs Sw T1 P1 (f, nI n, bg, en, kd, fi, se, nu) T2 P2) (some (.int (fR (xF f n nH m p)))) (cH C Hs Sw T1 P1 (Od') T2 P2) ∧ Od'.1 = f ∧ Od'.2.1 = nI n ∧ (∀ pos r, xF f n nH m p = some (pos, r) → Od'.2.2.1 = nI pos) := by
  intro m
  induction m with
  | zero =>
    intro i p bg en kd fi se nu hi hp
    refine ⟨(f, nI n, bg, en, kd, fi, se, nu), ?_, rfl, rfl, fun pos r e => by cases e⟩
    refine mJ_iload_n dX1_findFault_4 rfl ?_
    refine mJ_bipush (v := 60) dX1_findFault_5 rfl ?_
    refine mJ_icmp_ge 67 dX1_findFault_7 rfl (fun c_7 => ?_) (fun c_7 => False.elim (by exact c_7 (nI_le (a := 60) (show 60 ≤ i by omega) (by omega))))
    refine mJ_iconst (v := 0) dX1_findFault_67 rfl ?_
    exact mJ_iret dX1_findFault_68 rfl (rfl) (rfl)
  | succ m ih =>
    intro i p bg en kd fi se nu hi hp
    by_cases g0 : n ≤ p
    · have hF : xF f n nH (m + 1) p = none := xF_e g0
      rw [hF]
      refine ⟨(f, nI n, bg, en, kd, fi, se, nu), ?_, rfl, rfl, fun pos r e => by cases e⟩
      refine mJ_iload_n dX1_findFault_4 rfl ?_
      refine mJ_bipush (v := 60) dX1_findFault_5 rfl ?_
      refine mJ_icmp_ge 67 dX1_findFault_7 rfl (fun c_7 => False.elim (by exact nI_ge (b := 60) (show i < 60 by omega) (by decide) c_7)) (fun c_7 => ?_)
      refine mJ_iload_n dX1_findFault_10 rfl ?_
      refine mJ_aload_n dX1_findFault_11 rfl ?_
      refine mJ_get_22_1 dX1_findFault_12 f_X1_20 ?_
      refine mJ_icmp_ge 67 dX1_findFault_15 rfl (fun c_15 => ?_) (fun c_15 => False.elim (by exact c_15 (nI_le g0 (by omega))))
      refine mJ_iconst (v := 0) dX1_findFault_67 rfl ?_
      exact mJ_iret dX1_findFault_68 rfl (rfl) (rfl)
    · obtain ⟨Od2, hr, e1, e2, e3, e4⟩ := C_X1_read (C := C) (Hs := Hs) (Sw := Sw) (T1 := T1) (P1 := P1) (T2 := T2) (P2 := P2) (f := f) (bg := bg) (en := en) (kd := kd) (fi := fi) (se := se) (nu := nu) hn hp
      obtain ⟨o1, o2, o3, o4, o5, o6, o7, o8⟩ := Od2
      have e1 : o1 = f := e1
      have e2 : o2 = nI n := e2
      have e3 : o3 = nI p := e3
      rw [e1, e2, e3] at hr
      have e4 : ∀ k a b q, xO f n p = some (k, a, b, q) → o4 = nI q ∧ o5 = k ∧ (¬ k = 116 → o6 = a) ∧ (k = 118 → o7 = b) := e4
      cases hx : xO f n p with
      | none =>
        have hF : xF f n nH (m + 1) p = some (p, 1) := xF_b g0 (xR_n hx) (by decide)
        rw [hF]
        refine ⟨(f, nI n, nI p, o4, o5, o6, o7, o8), ?_, rfl, rfl, fun pos r e => by cases e; rfl⟩
        refine mJ_iload_n dX1_findFault_4 rfl ?_
        refine mJ_bipush (v := 60) dX1_findFault_5 rfl ?_
        refine mJ_icmp_ge 67 dX1_findFault_7 rfl (fun c_7 => False.elim (by exact nI_ge (b := 60) (show i < 60 by omega) (by decide) c_7)) (fun c_7 => ?_)
        refine mJ_iload_n dX1_findFault_10 rfl ?_
        refine mJ_aload_n dX1_findFault_11 rfl ?_
        refine mJ_get_22_1 dX1_findFault_12 f_X1_20 ?_
        refine mJ_icmp_ge 67 dX1_findFault_15 rfl (fun c_15 => False.elim (by exact g0 ((nI_leI (by omega) (by omega)).mp c_15))) (fun c_15 => ?_)
        refine mJ_aload_n dX1_findFault_18 rfl ?_
        refine mJ_iload_n dX1_findFault_19 rfl ?_
        refine mJ_cV1i dX1_findFault_20 e_X1_read n_X1_28 ⟨Nat.le_of_ble_eq_true rfl, Nat.le_of_ble_eq_true rfl⟩ rfl rfl (Nat.le_of_ble_eq_true rfl) (hr) ?_
        refine mJ_top (b2i_f (fun z => z hx)) ?_
        refine mJ_if_ne 28 dX1_findFault_23 rfl (fun c => absurd c (by decide)) (fun _ => ?_)
        refine mJ_iconst (v := 1) dX1_findFault_26 rfl ?_
        exact mJ_iret dX1_findFault_27 rfl (rfl) (rfl)
      | some y =>
        obtain ⟨k, a, b, q⟩ := y
        obtain ⟨f1, f2, f3, f4⟩ := e4 k a b q hx
        obtain ⟨x1, x2, x3⟩ := xO_ok hx
        have hne : ¬ xO f n p = none := by rw [hx]; exact fun z => by cases z
        by_cases g : (k = 111 ∨ k = 99) ∧ nI nH ≤ a
        · have g1 := g.1
          have hfi : o6 = a := f3 (fun z => by rw [z] at g1; rcases g1 with z | z <;> exact absurd z (by decide))
          have hF : xF f n nH (m + 1) p = some (p, 2) := xF_b g0 (xR_2 hx g) (by decide)
          rw [hF]
          refine ⟨(f, nI n, nI p, o4, o5, o6, o7, o8), ?_, rfl, rfl, fun pos r e => by cases e; rfl⟩
          refine mJ_iload_n dX1_findFault_4 rfl ?_
          refine mJ_bipush (v := 60) dX1_findFault_5 rfl ?_
          refine mJ_icmp_ge 67 dX1_findFault_7 rfl (fun c_7 => False.elim (by exact nI_ge (b := 60) (show i < 60 by omega) (by decide) c_7)) (fun c_7 => ?_)
          refine mJ_iload_n dX1_findFault_10 rfl ?_
          refine mJ_aload_n dX1_findFault_11 rfl ?_
          refine mJ_get_22_1 dX1_findFault_12 f_X1_20 ?_
          refine mJ_icmp_ge 67 dX1_findFault_15 rfl (fun c_15 => False.elim (by exact g0 ((nI_leI (by omega) (by omega)).mp c_15))) (fun c_15 => ?_)
          refine mJ_aload_n dX1_findFault_18 rfl ?_
          refine mJ_iload_n dX1_findFault_19 rfl ?_
          refine mJ_cV1i dX1_findFault_20 e_X1_read n_X1_28 ⟨Nat.le_of_ble_eq_true rfl, Nat.le_of_ble_eq_true rfl⟩ rfl rfl (Nat.le_of_ble_eq_true rfl) (hr) ?_
          refine mJ_top (b2i_t hne) ?_
          refine mJ_if_ne 28 dX1_findFault_23 rfl (fun _ => ?_) (fun c => absurd c (by decide))
          refine mJ_aload_n dX1_findFault_28 rfl ?_
          refine mJ_get_22_4 dX1_findFault_29 f_X1_32 ?_
          refine mJ_bipush (v := 111) dX1_findFault_32 rfl ?_
          refine mJ_icmp_eq 46 dX1_findFault_34 rfl (fun c_34 => ?_) (fun c_34 => ?_)
          · refine mJ_aload_n dX1_findFault_46 rfl ?_
            refine mJ_get_22_5 dX1_findFault_47 f_X1_35 ?_
            refine mJ_iload_n dX1_findFault_50 rfl ?_
            refine mJ_icmp_lt 56 dX1_findFault_51 rfl (fun c_51 => False.elim (by rw [hfi] at c_51; exact absurd c_51 (Int32.not_lt.mpr g.2))) (fun c_51 => ?_)
            refine mJ_iconst (v := 2) dX1_findFault_54 rfl ?_
            exact mJ_iret dX1_findFault_55 rfl (rfl) (rfl)
          · refine mJ_aload_n dX1_findFault_37 rfl ?_
            refine mJ_get_22_4 dX1_findFault_38 f_X1_32 ?_
            refine mJ_bipush (v := 99) dX1_findFault_41 rfl ?_
            refine mJ_icmp_ne 56 dX1_findFault_43 rfl (fun c_43 => False.elim (by rw [f2] at c_34 c_43; exact g1.elim c_34 c_43)) (fun c_43 => ?_)
            refine mJ_aload_n dX1_findFault_46 rfl ?_
            refine mJ_get_22_5 dX1_findFault_47 f_X1_35 ?_
            refine mJ_iload_n dX1_findFault_50 rfl ?_
            refine mJ_icmp_lt 56 dX1_findFault_51 rfl (fun c_51 => False.elim (by rw [hfi] at c_51; exact absurd c_51 (Int32.not_lt.mpr g.2))) (fun c_51 => ?_)
            refine mJ_iconst (v := 2) dX1_findFault_54 rfl ?_
            exact mJ_iret dX1_findFault_55 rfl (rfl) (rfl)
        · have hF : xF f n nH (m + 1) p = xF f n nH m q := by rw [xF_g g0 (xR_0 hx g), xQ_s hx]
          rw [hF]
          obtain ⟨Od3, hj, j1, j2, j3⟩ := ih (i + 1) q (nI p) (nI q) o5 o6 o7 o8 (by omega) (by omega)
          refine ⟨Od3, ?_, j1, j2, j3⟩
          rw [f1] at hr
          refine mJ_iload_n dX1_findFault_4 rfl ?_
          refine mJ_bipush (v := 60) dX1_findFault_5 rfl ?_
          refine mJ_icmp_ge 67 dX1_findFault_7 rfl (fun c_7 => False.elim (by exact nI_ge (b := 60) (show i < 60 by omega) (by decide) c_7)) (fun c_7 => ?_)
          refine mJ_iload_n dX1_findFault_10 rfl ?_
          refine mJ_aload_n dX1_findFault_11 rfl ?_
          refine mJ_get_22_1 dX1_findFault_12 f_X1_20 ?_
          refine mJ_icmp_ge 67 dX1_findFault_15 rfl (fun c_15 => False.elim (by exact g0 ((nI_leI (by omega) (by omega)).mp c_15))) (fun c_15 => ?_)
          refine mJ_aload_n dX1_findFault_18 rfl ?_
          refine mJ_iload_n dX1_findFault_19 rfl ?_
          refine mJ_cV1i dX1_findFault_20 e_X1_read n_X1_28 ⟨Nat.le_of_ble_eq_true rfl, Nat.le_of_ble_eq_true rfl⟩ rfl rfl (Nat.le_of_ble_eq_true rfl) (hr) ?_
          refine mJ_top (b2i_t hne) ?_
          refine mJ_if_ne 28 dX1_findFault_23 rfl (fun _ => ?_) (fun c => absurd c (by decide))
          refine mJ_aload_n dX1_findFault_28 rfl ?_
          refine mJ_get_22_4 dX1_findFault_29 f_X1_32 ?_
          refine mJ_bipush (v := 111) dX1_findFault_32 rfl ?_
          refine mJ_icmp_eq 46 dX1_findFault_34 rfl (fun c_34 => ?_) (fun c_34 => ?_)
          · refine mJ_aload_n dX1_findFault_46 rfl ?_
            refine mJ_get_22_5 dX1_findFault_47 f_X1_35 ?_
            refine mJ_iload_n dX1_findFault_50 rfl ?_
            refine mJ_icmp_lt 56 dX1_findFault_51 rfl (fun c_51 => ?_) (fun c_51 => False.elim (by rw [f2] at c_34; rw [f3 (fun z => by rw [z] at c_34; exact absurd c_34 (by decide))] at c_51; exact g ⟨Or.inl c_34, Int32.not_lt.mp c_51⟩))
            refine mJ_aload_n dX1_findFault_56 rfl ?_
            refine mJ_get_22_3 dX1_findFault_57 f_X1_38 ?_
            refine mJ_istore_n dX1_findFault_60 (Nat.le_of_ble_eq_true rfl) (ls2 := [_, _, _, _]) rfl ?_
            refine mJ_iinc dX1_findFault_61 rfl (Nat.le_of_ble_eq_true rfl) (v := nI (i + 1)) (nI_1 i) (ls2 := [_, _, _, _]) rfl ?_
            refine mJ_goto 4 dX1_findFault_64 rfl ?_
            exact hj
          · refine mJ_aload_n dX1_findFault_37 rfl ?_
            refine mJ_get_22_4 dX1_findFault_38 f_X1_32 ?_
            refine mJ_bipush (v := 99) dX1_findFault_41 rfl ?_
            refine mJ_icmp_ne 56 dX1_findFault_43 rfl (fun c_43 => ?_) (fun c_43 => ?_)
            · refine mJ_aload_n dX1_findFault_56 rfl ?_
              refine mJ_get_22_3 dX1_findFault_57 f_X1_38 ?_
              refine mJ_istore_n dX1_findFault_60 (Nat.le_of_ble_eq_true rfl) (ls2 := [_, _, _, _]) rfl ?_
              refine mJ_iinc dX1_findFault_61 rfl (Nat.le_of_ble_eq_true rfl) (v := nI (i + 1)) (nI_1 i) (ls2 := [_, _, _, _]) rfl ?_
              refine mJ_goto 4 dX1_findFault_64 rfl ?_
              exact hj
            · refine mJ_aload_n dX1_findFault_46 rfl ?_
              refine mJ_get_22_5 dX1_findFault_47 f_X1_35 ?_
              refine mJ_iload_n dX1_findFault_50 rfl ?_
              refine mJ_icmp_lt 56 dX1_findFault_51 rfl (fun c_51 => ?_) (fun c_51 => False.elim (by rw [f2] at c_43; rw [f3 (fun z => by rw [z] at c_43; exact absurd c_43 (by decide))] at c_51; exact g ⟨Or.inr c_43, Int32.not_lt.mp c_51⟩))
              refine mJ_aload_n dX1_findFault_56 rfl ?_
              refine mJ_get_22_3 dX1_findFault_57 f_X1_38 ?_
              refine mJ_istore_n dX1_findFault_60 (Nat.le_of_ble_eq_true rfl) (ls2 := [_, _, _, _]) rfl ?_
              refine mJ_iinc dX1_findFault_61 rfl (Nat.le_of_ble_eq_true rfl) (v := nI (i + 1)) (nI_1 i) (ls2 := [_, _, _, _]) rfl ?_
              refine mJ_goto 4 dX1_findFault_64 rfl ?_
              exact hj
set_option maxHeartbeats 4000000 in
set_option maxRecDepth 100000 in
theorem C_X1_findFault {C : aF} {Hs : tH} {Sw : tS} {T1 : tT} {P1 : tP} {T2 : tT} {P2 : tP} {f : aF} {n nH : Nat} (hn : n ≤ 60)  {bg en kd fi se nu : Int32} : ∃ Od' : tO, mCt k_X1_findFault [.ref 22, .int (nI nH)] (cH C Hs Sw T1 P1 (f, nI n, bg, en, kd, fi, se, nu) T2 P2) (some (.int (fR (xF f n nH 60 0)))) (cH C Hs Sw T1 P1 (Od') T2 P2) ∧ Od'.1 = f ∧ Od'.2.1 = nI n ∧ (∀ pos r, xF f n nH 60 0 = some (pos, r) → Od'.2.2.1 = nI pos) := by
  obtain ⟨Od3, hj, j1, j2, j3⟩ := L_X1_findFault (C := C) (Hs := Hs) (Sw := Sw) (T1 := T1) (P1 := P1) (T2 := T2) (P2 := P2) (f := f) (nH := nH) hn 60 0 0 bg en kd fi se nu (by omega) (by omega)
  refine ⟨Od3, ?_, j1, j2, j3⟩
  refine mCt_intro (plainFor_of_name rfl) (Nat.le_of_ble_eq_true rfl) (m_all rfl) (ls := [_, _, _, _]) rfl ?_
  refine mJ_iconst (v := 0) dX1_findFault_0 rfl ?_
  refine mJ_istore_n dX1_findFault_1 (Nat.le_of_ble_eq_true rfl) (ls2 := [_, _, _, _]) rfl ?_
  refine mJ_iconst (v := 0) dX1_findFault_2 rfl ?_
  refine mJ_istore_n dX1_findFault_3 (Nat.le_of_ble_eq_true rfl) (ls2 := [_, _, _, _]) rfl ?_
  exact hj
set_option maxHeartbeats 4000000 in
set_option maxRecDepth 100000 in
theorem C_X7_fault_bad {C : aF} {Hs : tH} {Sw : tS} {T1 : tT} {P1 : tP} {Od : tO} {T2 : tT} {P2 : tP} {v : Int32} (hb : ¬ (¬ v < 0 ∧ v ≤ 1)) : mCt k_X7_fault [.ref 0, .int v] (cH C Hs Sw T1 P1 Od T2 P2) (some (.int (-10001))) (cH C Hs Sw T1 P1 Od T2 P2) := by
  refine mCt_intro (plainFor_of_name rfl) (Nat.le_of_ble_eq_true rfl) (m_all rfl) (ls := [_, _, _]) rfl ?_
  refine mJ_iload_n dX7_fault_0 rfl ?_
  refine mJ_if_lt 9 dX7_fault_1 rfl (fun c_1 => ?_) (fun c_1 => ?_)
  · refine mJ_sipush (v := (-10001)) dX7_fault_9 rfl ?_
    exact mJ_iret dX7_fault_12 rfl (rfl) (rfl)
  · refine mJ_iload_n dX7_fault_4 rfl ?_
    refine mJ_iconst (v := 1) dX7_fault_5 rfl ?_
    refine mJ_icmp_le 13 dX7_fault_6 rfl (fun c_6 => False.elim (by exact hb ⟨c_1, c_6⟩)) (fun c_6 => ?_)
    refine mJ_sipush (v := (-10001)) dX7_fault_9 rfl ?_
    exact mJ_iret dX7_fault_12 rfl (rfl) (rfl)
theorem xF_r {f : aF} {n nH : Nat} : ∀ (m p : Nat) (pos : Nat) (r : Int32), xF f n nH m p = some (pos, r) → ¬ r = 0
  | 0, p, pos, r, h => by cases h
  | m + 1, p, pos, r, h => by
    by_cases g0 : n ≤ p
    · rw [xF_e g0] at h; cases h
    · by_cases g : xR f n nH p = 0
      · rw [xF_g g0 g] at h; exact xF_r m _ pos r h
      · rw [xF_b g0 rfl g] at h; cases h; exact g
theorem fR_0 {f : aF} {n nH m p : Nat} : fR (xF f n nH m p) = 0 ↔ xF f n nH m p = none := by
  cases h : xF f n nH m p with
  | none => exact ⟨fun _ => rfl, fun _ => rfl⟩
  | some y =>
    obtain ⟨pos, r⟩ := y
    exact ⟨fun z => absurd z (xF_r m p pos r h), fun z => by cases z⟩
set_option maxHeartbeats 4000000 in
set_option maxRecDepth 100000 in
theorem C_X7_fault_0 {C : aF} {Hs : tH} {Sw : tS} {T1 : tT} {P1 : tP} {T2 : tT} {P2 : tP} {f : aF} {n nH : Nat} (hn : n ≤ 60)  {bg en kd fi se nu : Int32} (h5 : gG C 5 = nI nH) : ∃ Od' : tO, mCt k_X7_fault [.ref 0, .int 0] (cH C Hs Sw T1 P1 (f, nI n, bg, en, kd, fi, se, nu) T2 P2) (some (.int (fP (xF f n nH 60 0)))) (cH C Hs Sw T1 P1 (Od') T2 P2) ∧ Od'.1 = f ∧ Od'.2.1 = nI n := by
  obtain ⟨Od3, hj, j1, j2, j3⟩ := C_X1_findFault (C := C) (Hs := Hs) (Sw := Sw) (T1 := T1) (P1 := P1) (T2 := T2) (P2 := P2) (f := f) (nH := nH) (bg := bg) (en := en) (kd := kd) (fi := fi) (se := se) (nu := nu) hn
  rw [← h5] at hj
  refine ⟨Od3, ?_, j1, j2⟩
  refine mCt_intro (plainFor_of_name rfl) (Nat.le_of_ble_eq_true rfl) (m_all rfl) (ls := [_, _, _]) rfl ?_
  refine mJ_iload_n dX7_fault_0 rfl ?_
  refine mJ_if_lt 9 dX7_fault_1 rfl (fun c => absurd c (by decide)) (fun _ => ?_)
  refine mJ_iload_n dX7_fault_4 rfl ?_
  refine mJ_iconst (v := 1) dX7_fault_5 rfl ?_
  refine mJ_icmp_le 13 dX7_fault_6 rfl (fun _ => ?_) (fun c => absurd c (by decide))
  refine mJ_aload_n dX7_fault_13 rfl ?_
  refine mJ_get dX7_fault_14 f_X7_33 rfl rfl ?_
  refine mJ_aload_n dX7_fault_17 rfl ?_
  refine mJ_get dX7_fault_18 f_X7_12 rfl rfl ?_
  refine mJ_iconst (v := 5) dX7_fault_21 rfl ?_
  refine mJ_cV1i dX7_fault_22 e_X5_get n_X7_80 ⟨Nat.le_of_ble_eq_true rfl, Nat.le_of_ble_eq_true rfl⟩ rfl rfl (Nat.le_of_ble_eq_true rfl) (C_X5_get) ?_
  refine mJ_cV1i dX7_fault_25 e_X1_findFault n_X7_223 ⟨Nat.le_of_ble_eq_true rfl, Nat.le_of_ble_eq_true rfl⟩ rfl rfl (Nat.le_of_ble_eq_true rfl) (hj) ?_
  refine mJ_istore_n dX7_fault_28 (Nat.le_of_ble_eq_true rfl) (ls2 := [_, _, _]) rfl ?_
  refine mJ_iload_n dX7_fault_29 rfl ?_
  refine mJ_if_ne 37 dX7_fault_30 rfl (fun c_30 => ?_) (fun c_30 => ?_)
  · refine mJ_iload_n dX7_fault_37 rfl ?_
    refine mJ_if_ne 51 dX7_fault_38 rfl (fun c => absurd c (by decide)) (fun _ => ?_)
    refine mJ_aload_n dX7_fault_41 rfl ?_
    refine mJ_get dX7_fault_42 f_X7_33 rfl rfl ?_
    refine mJ_get_22_2 dX7_fault_45 f_X7_226 ?_
    refine mJ_goto 52 dX7_fault_48 rfl ?_
    exact mJ_iret dX7_fault_52 rfl (by cases h : xF f n nH 60 0 with
    | none => exact absurd (by rw [h]; rfl) c_30
    | some y => obtain ⟨pos, r⟩ := y; rw [j3 pos r h]; rfl) (rfl)
  · refine mJ_sipush (v := (-10004)) dX7_fault_33 rfl ?_
    exact mJ_iret dX7_fault_36 rfl (by rw [fR_0.mp c_30]; rfl) (rfl)
set_option maxHeartbeats 4000000 in
set_option maxRecDepth 100000 in
theorem C_X7_fault_1 {C : aF} {Hs : tH} {Sw : tS} {T1 : tT} {P1 : tP} {T2 : tT} {P2 : tP} {f : aF} {n nH : Nat} (hn : n ≤ 60)  {bg en kd fi se nu : Int32} (h5 : gG C 5 = nI nH) : ∃ Od' : tO, mCt k_X7_fault [.ref 0, .int 1] (cH C Hs Sw T1 P1 (f, nI n, bg, en, kd, fi, se, nu) T2 P2) (some (.int (if xF f n nH 60 0 = none then -10004 else fR (xF f n nH 60 0)))) (cH C Hs Sw T1 P1 (Od') T2 P2) ∧ Od'.1 = f ∧ Od'.2.1 = nI n := by
  obtain ⟨Od3, hj, j1, j2, j3⟩ := C_X1_findFault (C := C) (Hs := Hs) (Sw := Sw) (T1 := T1) (P1 := P1) (T2 := T2) (P2 := P2) (f := f) (nH := nH) (bg := bg) (en := en) (kd := kd) (fi := fi) (se := se) (nu := nu) hn
  rw [← h5] at hj
  refine ⟨Od3, ?_, j1, j2⟩
  refine mCt_intro (plainFor_of_name rfl) (Nat.le_of_ble_eq_true rfl) (m_all rfl) (ls := [_, _, _]) rfl ?_
  refine mJ_iload_n dX7_fault_0 rfl ?_
  refine mJ_if_lt 9 dX7_fault_1 rfl (fun c => absurd c (by decide)) (fun _ => ?_)
  refine mJ_iload_n dX7_fault_4 rfl ?_
  refine mJ_iconst (v := 1) dX7_fault_5 rfl ?_
  refine mJ_icmp_le 13 dX7_fault_6 rfl (fun _ => ?_) (fun c => absurd c (by decide))
  refine mJ_aload_n dX7_fault_13 rfl ?_
  refine mJ_get dX7_fault_14 f_X7_33 rfl rfl ?_
  refine mJ_aload_n dX7_fault_17 rfl ?_
  refine mJ_get dX7_fault_18 f_X7_12 rfl rfl ?_
  refine mJ_iconst (v := 5) dX7_fault_21 rfl ?_
  refine mJ_cV1i dX7_fault_22 e_X5_get n_X7_80 ⟨Nat.le_of_ble_eq_true rfl, Nat.le_of_ble_eq_true rfl⟩ rfl rfl (Nat.le_of_ble_eq_true rfl) (C_X5_get) ?_
  refine mJ_cV1i dX7_fault_25 e_X1_findFault n_X7_223 ⟨Nat.le_of_ble_eq_true rfl, Nat.le_of_ble_eq_true rfl⟩ rfl rfl (Nat.le_of_ble_eq_true rfl) (hj) ?_
  refine mJ_istore_n dX7_fault_28 (Nat.le_of_ble_eq_true rfl) (ls2 := [_, _, _]) rfl ?_
  refine mJ_iload_n dX7_fault_29 rfl ?_
  refine mJ_if_ne 37 dX7_fault_30 rfl (fun c_30 => ?_) (fun c_30 => ?_)
  · refine mJ_iload_n dX7_fault_37 rfl ?_
    refine mJ_if_ne 51 dX7_fault_38 rfl (fun _ => ?_) (fun c => absurd c (by decide))
    refine mJ_iload_n dX7_fault_51 rfl ?_
    exact mJ_iret dX7_fault_52 rfl (by rw [if_neg (fun z => c_30 (fR_0.mpr z))]) (rfl)
  · refine mJ_sipush (v := (-10004)) dX7_fault_33 rfl ?_
    exact mJ_iret dX7_fault_36 rfl (by rw [if_pos (fR_0.mp c_30)]) (rfl)
